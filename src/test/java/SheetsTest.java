/** Promises 5 to 9: job, sheet, where, tray, bin. */
public final class SheetsTest {
  public static void main(String[] args) {
    jobs();
    sheetsByHand();
    sheetsOfEveryJob();
    wrongNumbers();
    traysAndBins();
    Office.end("SheetsTest");
  }

  private static void jobs() {
    CopierJobs x = Office.of("j5 3 1 0 2;j4 2 0 1 1;");
    int[][] want = {{5, 3, 1, 0, 2, 9, 0, 0, -9, 15, 15}, {4, 2, 0, 1, 1, 8, 0, 1, -9, 23, 8}};
    for (int j = 0; j < 2; j++) {
      for (int what = 0; what <= 10; what++) Office.due("job(" + j + ", " + what + ")", x.job(j, what), want[j][what]);
    }
    x.ticks(3);
    Office.due("MADE behind 3 ticks", x.job(0, 6), 1);
    Office.due("LEFT, a sheet half done", x.job(0, 10), 13);
    Office.due("IN, a sheet half done", x.job(0, 9), 12);
    x.breaks(0);
    Office.due("place of a job broken off", x.job(0, 7), -9);
    Office.due("LEFT of a job broken off", x.job(0, 10), 0);
    Office.due("IN of a job broken off", x.job(0, 9), -9);
    Office.due("place of the other", x.job(1, 7), 0);
    x.ticks(8);
    Office.due("END", x.job(1, 8), 11);
    Office.due("IN of an ended job", x.job(1, 9), -9);
    Office.due("END of a job broken off", x.job(0, 8), -9);
  }

  private static void sheetsByHand() {
    // 5 pages on both sides are leaves 1-2, 3-4, 5.
    CopierJobs x = Office.of("b2;j5 3 1 1 0;j5 3 1 0 0;j2 2 0 0 0;");
    int[][] sorted = {{0, 1, 2, 0}, {0, 3, 4, 0}, {0, 5, 0, 0}, {1, 1, 2, 1}, {1, 3, 4, 1}, {1, 5, 0, 1},
        {2, 1, 2, 0}, {2, 3, 4, 0}, {2, 5, 0, 0}};
    int[][] unsorted = {{0, 1, 2, 0}, {1, 1, 2, 0}, {2, 1, 2, 0}, {0, 3, 4, 1}, {1, 3, 4, 1}, {2, 3, 4, 1},
        {0, 5, 0, 0}, {1, 5, 0, 0}, {2, 5, 0, 0}};
    int[][] oneSide = {{0, 1, 0, 0}, {1, 1, 0, 0}, {0, 2, 0, 1}, {1, 2, 0, 1}};
    sheets(x, 0, sorted);
    sheets(x, 1, unsorted);
    sheets(x, 2, oneSide);
    Office.due("where sorted", x.where(0, 4, 2), 7);
    Office.due("where unsorted", x.where(1, 4, 2), 5);
    Office.due("where on one side", x.where(2, 2, 1), 3);
  }

  private static void sheets(CopierJobs x, int j, int[][] want) {
    for (int k = 0; k < want.length; k++) {
      for (int what = 0; what < 4; what++) Office.due("sheet(" + j + ", " + k + ", " + what + ")", x.sheet(j, k, what), want[k][what]);
    }
    Office.due("sheet(" + j + ") behind the last", x.sheet(j, want.length, 0), -1);
  }

  /** Sheets told one behind the other, as the document numbers them. */
  private static void sheetsOfEveryJob() {
    for (int code = 0; code < 9 * 9 * 4; code++) {
      int pages = code % 9 + 1, copies = code / 9 % 9 + 1, both = code / 81 % 2, sorted = code / 162;
      int bins = code % 6 + 1;
      CopierJobs x = Office.of("b" + bins + ";j" + pages + " " + copies + " " + both + " " + sorted + " 0;");
      int leaves = both == 1 ? (pages + 1) / 2 : pages;
      int k = 0;
      for (int outer = 0; outer < (sorted == 1 ? copies : leaves); outer++) {
        for (int inner = 0; inner < (sorted == 1 ? leaves : copies); inner++) {
          int copy = sorted == 1 ? outer : inner, leaf = sorted == 1 ? inner : outer;
          sheetIs(x, k, copy, leaf, (sorted == 1 ? copy : leaf) % bins, pages, both);
          k++;
        }
      }
      Office.due("ALL", x.job(0, 5), k);
      Office.due("LEFT", x.job(0, 10), pages * copies);
      Office.due("sheet behind the last", x.sheet(0, k, 1), -1);
    }
  }

  private static void sheetIs(CopierJobs x, int k, int copy, int leaf, int bin, int pages, int both) {
    int front = both == 1 ? 2 * leaf + 1 : leaf + 1;
    int back = both == 1 && front < pages ? front + 1 : 0;
    Office.due("copy", x.sheet(0, k, 0), copy);
    Office.due("front", x.sheet(0, k, 1), front);
    Office.due("back", x.sheet(0, k, 2), back);
    Office.due("bin", x.sheet(0, k, 3), bin);
    Office.due("where the front is", x.where(0, front, copy), k);
    if (back != 0) Office.due("where the back is", x.where(0, back, copy), k);
  }

  private static void wrongNumbers() {
    CopierJobs x = Office.of("b2;j2 3 0 1 0;j2 3 0 1 0;");
    int[] far = {-1, 2, 6, 7, 100, Integer.MIN_VALUE, Integer.MAX_VALUE};
    for (int n : far) {
      Office.due("job(" + n + ", 0)", x.job(n, 0), -1);
      Office.due("sheet(" + n + ", 0, 0)", x.sheet(n, 0, 0), -1);
      Office.due("where(" + n + ", 1, 0)", x.where(n, 1, 0), -1);
      Office.due("bin(" + n + ")", x.bin(n), -1);
      Office.due("tray(0, " + n + ")", x.tray(0, n), -1);
    }
    for (int n : new int[] {-1, 11, Integer.MIN_VALUE, Integer.MAX_VALUE}) Office.due("job(0, " + n + ")", x.job(0, n), -1);
    for (int n : new int[] {-1, 6, Integer.MIN_VALUE, Integer.MAX_VALUE}) Office.due("sheet(0, " + n + ", 0)", x.sheet(0, n, 0), -1);
    for (int n : new int[] {-1, 4, Integer.MIN_VALUE, Integer.MAX_VALUE}) Office.due("sheet(0, 0, " + n + ")", x.sheet(0, 0, n), -1);
    for (int n : new int[] {-1, 0, 3, Integer.MIN_VALUE, Integer.MAX_VALUE}) Office.due("where(0, " + n + ", 0)", x.where(0, n, 0), -1);
    for (int n : new int[] {-1, 3, Integer.MIN_VALUE, Integer.MAX_VALUE}) Office.due("where(0, 1, " + n + ")", x.where(0, 1, n), -1);
    for (int n : new int[] {-1, 3, Integer.MIN_VALUE, Integer.MAX_VALUE}) Office.due("tray(" + n + ", 0)", x.tray(n, 0), -1);
  }

  private static void traysAndBins() {
    CopierJobs x = Office.of("t3 0 9;b3;j3 2 1 1 0;j5 1 0 0 1;j1 2 0 0 0;");
    Office.due("WANTS of tray 0", x.tray(0, 1), 3);
    Office.due("WANTS of tray 1", x.tray(1, 1), 5);
    Office.due("WANTS of tray 2", x.tray(2, 1), 0);
    x.ticks(5);
    Office.due("tray 0 less 3", x.tray(0, 0), 0);
    Office.due("WANTS of tray 0, 3 made", x.tray(0, 1), 3);
    Office.due("bin 0", x.bin(0), 2);
    Office.due("bin 1", x.bin(1), 1);
    Office.due("bin 2", x.bin(2), 0);
    Office.due("bin 3", x.bin(3), -1);
    x.breaks(1);
    Office.due("WANTS of tray 1, broken off", x.tray(1, 1), 0);
    x.fills(0, 2);
    Office.due("WANTS of tray 0, filled", x.tray(0, 1), 1);
    x.fills(0, 1);
    Office.due("WANTS of tray 0, none", x.tray(0, 1), 0);
  }
}
