import java.util.ArrayList;
import java.util.List;

/** The cover and the fools of any table, by search through all blocks and all pairs. */
final class Searches {
  private Searches() {
  }

  /** Open pairs, row by row, by their bits. */
  private static long bits(boolean[][] open, int rows) {
    int n = open.length;
    long bits = 0;
    for (int i = 0; i < n; i++) {
      for (int j = 0; j < n; j++) {
        if (open[i][j] && (rows >> i & 1) == 1) {
          bits |= 1L << (i * n + j);
        }
      }
    }
    return bits;
  }

  /** The largest block of just these edges; any other of them is part of it. */
  private static long block(boolean[][] open, int edges) {
    int n = open.length;
    long block = 0;
    for (int j = 0; j < n; j++) {
      boolean all = true;
      for (int i = 0; i < n; i++) {
        all &= (edges >> i & 1) == 0 || open[i][j];
      }
      for (int i = 0; all && i < n; i++) {
        if ((edges >> i & 1) == 1) {
          block |= 1L << (i * n + j);
        }
      }
    }
    return block;
  }

  static int cover(boolean[][] open) {
    List<Long> blocks = new ArrayList<>();
    for (int edges = 1; edges < 1 << open.length; edges++) {
      blocks.add(block(open, edges));
    }
    long wanted = bits(open, -1);
    int k = 0;
    while (!canCover(blocks, wanted, k)) {
      k++;
    }
    return k;
  }

  private static boolean canCover(List<Long> blocks, long left, int k) {
    if (left == 0) {
      return true;
    }
    if (k == 0) {
      return false;
    }
    int largest = 0;
    for (long b : blocks) {
      largest = Math.max(largest, Long.bitCount(b & left));
    }
    if ((long) largest * k < Long.bitCount(left)) {
      return false;
    }
    long first = Long.lowestOneBit(left);
    for (long b : blocks) {
      if ((b & first) != 0 && canCover(blocks, left & ~b, k - 1)) {
        return true;
      }
    }
    return false;
  }

  static int fools(boolean[][] open) {
    int n = open.length;
    long[] fooling = new long[n * n];
    for (int p = 0; p < n * n; p++) {
      for (int q = 0; q < n * n; q++) {
        boolean both = open[p / n][p % n] && open[q / n][q % n];
        if (p != q && both && !(open[p / n][q % n] && open[q / n][p % n])) {
          fooling[p] |= 1L << q;
        }
      }
    }
    return most(fooling, bits(open, -1), 0, 0);
  }

  private static int most(long[] fooling, long left, int chosen, int best) {
    int found = Math.max(best, chosen);
    long rest = left;
    while (rest != 0 && chosen + Long.bitCount(rest) > found) {
      int p = Long.numberOfTrailingZeros(rest);
      rest &= ~(1L << p);
      found = most(fooling, rest & fooling[p], chosen + 1, found);
    }
    return found;
  }
}
