import java.util.ArrayList;
import java.util.List;

/** Rows of arguments at and beside the bounds that the document names. */
final class Corners {
  private static final int LEAST = Integer.MIN_VALUE, MOST = Integer.MAX_VALUE;
  private static final int[] MANY = {LEAST, Due.NONE, Due.BAD, -100000, -99999, -2, -1, 0, 1, 2, 3, 4, 5, 6, 7, 8, 9, 10,
      11, 14, 15, 20, 21, 24, 25, 30, 31, 60, 61, 96, 97, 99, 100, 101, 9999, 10000, 65536, 99999, 100000, MOST};
  private static final int[] SOME = {LEAST, Due.NONE, -1, 0, 1, 2, 3, 4, 5, 6, 24, 25, 60, 61, 99, 100, 100000, MOST};
  private static final int[] FEW = {LEAST, -1, 0, 1, 3, 4, 24, 100, MOST};
  private static final int[] FEWEST = {LEAST, -1, 0, 1, 3, 24, MOST};

  private Corners() {
  }

  /** The more parameters, the fewer numbers for each. */
  static List<int[]> rows(int parameters) {
    int[][] lists = {MANY, MANY, SOME, FEW, FEW, FEWEST};
    List<int[]> rows = new ArrayList<>();
    fill(rows, new int[parameters], 0, lists[parameters]);
    return rows;
  }

  private static void fill(List<int[]> rows, int[] row, int at, int[] list) {
    if (at == row.length) {
      rows.add(row.clone());
      return;
    }
    for (int v : list) {
      row[at] = v;
      fill(rows, row, at + 1, list);
    }
  }
}
