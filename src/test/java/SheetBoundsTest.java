/** Every boundary that the document names for LEAVES, SHEETS and BINS, and promises 5 to 9. */
public final class SheetBoundsTest {
  private static final int LOW = Integer.MIN_VALUE, HIGH = Integer.MAX_VALUE;

  public static void main(String[] args) {
    theGreaterHalf();
    backOfTheLastLeaf();
    firstAndLastSheet();
    leftOverByBins();
    whereFirstAndLast();
    jobIsRefused();
    sheetIsRefused();
    whereIsRefused();
    trayIsRefused();
    binIsRefused();
    jobNotInTheQueue();
    Office.end("SheetBoundsTest");
  }

  /** 'half as many (the greater half)' */
  private static void theGreaterHalf() {
    int[] leaves = {1, 1, 2, 2, 3, 3, 4, 4, 5};
    for (int pages = 1; pages <= 9; pages++) {
      for (int copies : new int[] {1, 2, 9}) {
        Office.due("ALL, BOTH", job(pages, copies, 1, 1).job(0, 5), leaves[pages - 1] * copies);
        Office.due("ALL, BOTH, unsorted", job(pages, copies, 1, 0).job(0, 5), leaves[pages - 1] * copies);
        Office.due("ALL, one side", job(pages, copies, 0, 1).job(0, 5), pages * copies);
      }
    }
  }

  /** 'on its BACK, if BOTH, the PAGE behind that (0: there is none, or it is not BOTH)' */
  private static void backOfTheLastLeaf() {
    for (int pages = 1; pages <= 9; pages++) {
      CopierJobs x = job(pages, 2, 1, 1);
      int last = (pages + 1) / 2 - 1;
      Office.due("FRONT of the last LEAF of " + pages, x.sheet(0, last, 1), pages % 2 == 1 ? pages : pages - 1);
      Office.due("BACK of the last LEAF of " + pages, x.sheet(0, last, 2), pages % 2 == 1 ? 0 : pages);
      Office.due("BACK of the first LEAF of " + pages, x.sheet(0, 0, 2), pages == 1 ? 0 : 2);
      CopierJobs one = job(pages, 2, 0, 1);
      for (int k = 0; k < 2 * pages; k++) Office.due("BACK, not BOTH", one.sheet(0, k, 2), 0);
    }
  }

  /** 'numbered from 0 on as they come' */
  private static void firstAndLastSheet() {
    for (int both = 0; both < 2; both++) {
      for (int sorted = 0; sorted < 2; sorted++) {
        for (int pages : new int[] {1, 2, 8, 9}) {
          for (int copies : new int[] {1, 2, 9}) ends(job(pages, copies, both, sorted), pages, copies);
        }
      }
    }
    CopierJobs x = job(9, 9, 0, 0);
    Office.due("copy of SHEET 80", x.sheet(0, 80, 0), 8);
    Office.due("FRONT of SHEET 80", x.sheet(0, 80, 1), 9);
    Office.due("BIN of SHEET 80", x.sheet(0, 80, 3), 0);
    Office.due("no SHEET 81", x.sheet(0, 81, 0), -1);
    x = job(1, 1, 1, 1);
    Office.due("the only SHEET", x.sheet(0, 0, 1), 1);
    Office.due("no SHEET 1", x.sheet(0, 1, 1), -1);
  }

  private static void ends(CopierJobs x, int pages, int copies) {
    int all = x.job(0, 5);
    Office.due("copy of the first SHEET", x.sheet(0, 0, 0), 0);
    Office.due("FRONT of the first SHEET", x.sheet(0, 0, 1), 1);
    Office.due("BIN of the first SHEET", x.sheet(0, 0, 3), 0);
    Office.due("copy of the last SHEET", x.sheet(0, all - 1, 0), copies - 1);
    Office.due("last PAGE", Math.max(x.sheet(0, all - 1, 1), x.sheet(0, all - 1, 2)), pages);
    for (int what = 0; what < 4; what++) {
      Office.due("ahead of the first SHEET", x.sheet(0, -1, what), -1);
      Office.due("behind the last SHEET", x.sheet(0, all, what), -1);
    }
  }

  /** 'to the BIN of its copy (0 ..), if it is SORTED, else of its LEAF; left over by BINS' */
  private static void leftOverByBins() {
    for (int bins = 1; bins <= 6; bins++) {
      CopierJobs sorted = Office.of("b" + bins + ";j1 9 0 1 0;"), unsorted = Office.of("b" + bins + ";j9 1 0 0 0;");
      for (int part = 0; part < 9; part++) {
        Office.due("BIN of copy " + part + " of " + bins, sorted.sheet(0, part, 3), part % bins);
        Office.due("BIN of LEAF " + part + " of " + bins, unsorted.sheet(0, part, 3), part % bins);
      }
      // Where the other of the two would be another BIN.
      CopierJobs x = Office.of("b" + bins + ";j9 2 0 1 0;j2 9 0 0 0;");
      Office.due("LEAF 8 of copy 1, SORTED", x.sheet(0, 17, 3), 1 % bins);
      Office.due("copy 8 of LEAF 1, unsorted", x.sheet(1, 17, 3), 1 % bins);
      sorted.ticks(9);
      for (int b = 0; b < bins; b++) Office.due("BIN " + b + " of " + bins, sorted.bin(b), (9 - b + bins - 1) / bins);
    }
  }

  private static void whereFirstAndLast() {
    CopierJobs x = Office.of("j9 9 0 1 0;j9 9 0 0 0;j9 9 1 1 0;j9 9 1 0 0;j1 1 0 0 0;j2 1 1 0 0;");
    int[] lastSheet = {80, 80, 44, 44};
    for (int j = 0; j < 4; j++) {
      Office.due("WHERE first", x.where(j, 1, 0), 0);
      Office.due("WHERE last", x.where(j, 9, 8), lastSheet[j]);
    }
    Office.due("WHERE the last PAGE, first copy, SORTED", x.where(0, 9, 0), 8);
    Office.due("WHERE the last PAGE, first copy, unsorted", x.where(1, 9, 0), 72);
    Office.due("WHERE the first PAGE, last copy, SORTED", x.where(0, 1, 8), 72);
    Office.due("WHERE the first PAGE, last copy, unsorted", x.where(1, 1, 8), 8);
    Office.due("WHERE the last BACK, SORTED", x.where(2, 8, 8), 43);
    Office.due("WHERE the last BACK, unsorted", x.where(3, 8, 8), 35);
    Office.due("WHERE of one PAGE", x.where(4, 1, 0), 0);
    Office.due("WHERE on the BACK", x.where(5, 2, 0), 0);
  }

  private static void jobIsRefused() {
    for (String scene : Scenes.NAMES) {
      int jobs = Scenes.make(scene).count(1);
      for (int j : new int[] {-1, jobs, 6, LOW, HIGH}) {
        for (int what : new int[] {0, 7, 10}) refused(scene, "job(" + j + ", " + what + ")", x -> x.job(j, what));
      }
      for (int what : new int[] {-1, 11, LOW, HIGH}) refused(scene, "job(0, " + what + ")", x -> x.job(0, what));
    }
    CopierJobs x = Scenes.make("half done");
    Office.due("the last JOB", x.job(2, 0), 9);
    Office.due("the first what", x.job(2, 0), 9);
    Office.due("the last what", x.job(2, 10), 9);
  }

  private static void sheetIsRefused() {
    for (String scene : Scenes.NAMES) {
      CopierJobs made = Scenes.make(scene);
      int jobs = made.count(1);
      for (int j : new int[] {-1, jobs, 6, LOW, HIGH}) refused(scene, "sheet(" + j + ", 0, 0)", x -> x.sheet(j, 0, 0));
      for (int j = 0; j < jobs; j++) {
        int job = j, all = made.job(j, 5);
        for (int k : new int[] {-1, all, 81, LOW, HIGH}) refused(scene, "sheet(" + j + ", " + k + ", 0)", x -> x.sheet(job, k, 0));
        for (int what : new int[] {-1, 4, LOW, HIGH}) refused(scene, "sheet(" + j + ", 0, " + what + ")", x -> x.sheet(job, 0, what));
      }
    }
  }

  /** A PAGE that the JOB does not have is no such thing, on the BACK of the last LEAF too. */
  private static void whereIsRefused() {
    for (String scene : Scenes.NAMES) {
      CopierJobs made = Scenes.make(scene);
      int jobs = made.count(1);
      for (int j : new int[] {-1, jobs, 6, LOW, HIGH}) refused(scene, "where(" + j + ", 1, 0)", x -> x.where(j, 1, 0));
      for (int j = 0; j < jobs; j++) {
        int job = j, pages = made.job(j, 0), copies = made.job(j, 1);
        for (int page : new int[] {-1, 0, pages + 1, 10, LOW, HIGH}) refused(scene, "where(" + j + ", " + page + ", 0)", x -> x.where(job, page, 0));
        for (int copy : new int[] {-1, copies, 9, LOW, HIGH}) refused(scene, "where(" + j + ", 1, " + copy + ")", x -> x.where(job, 1, copy));
        Office.due("the last PAGE and copy stand", made.where(j, pages, copies - 1), made.job(j, 5) - 1);
      }
    }
  }

  private static void trayIsRefused() {
    for (String scene : Scenes.NAMES) {
      for (int t : new int[] {-1, 3, LOW, HIGH}) {
        refused(scene, "tray(" + t + ", 0)", x -> x.tray(t, 0));
        refused(scene, "tray(" + t + ", 1)", x -> x.tray(t, 1));
      }
      for (int what : new int[] {-1, 2, LOW, HIGH}) refused(scene, "tray(0, " + what + ")", x -> x.tray(0, what));
    }
    CopierJobs x = Office.of("t1 2 3;j4 1 0 0 0;j4 1 0 0 2;");
    int[] sheets = {1, 2, 3}, wants = {3, 0, 1};
    for (int t = 0; t < 3; t++) {
      Office.due("tray(" + t + ", 0)", x.tray(t, 0), sheets[t]);
      Office.due("tray(" + t + ", 1)", x.tray(t, 1), wants[t]);
    }
  }

  private static void binIsRefused() {
    for (String scene : Scenes.NAMES) {
      int bins = Scenes.make(scene).count(0);
      for (int b : new int[] {-1, bins, 6, LOW, HIGH}) refused(scene, "bin(" + b + ")", x -> x.bin(b));
    }
  }

  /** 'its place in THE QUEUE (0 ..; NONE), 8 END (NONE), 9 IN (NONE), 10 LEFT (0: it is not in THE QUEUE)' */
  private static void jobNotInTheQueue() {
    CopierJobs x = Office.of("j1 1 0 0 0;j1 2 0 0 0;j3 1 0 0 0;");
    Office.due("place of the first", x.job(0, 7), 0);
    Office.due("place of the last", x.job(2, 7), 2);
    x.breaks(1);
    x.ticks(2);
    int[][] want = {{1, -9, 1, -9, 0}, {0, -9, -9, -9, 0}, {1, 0, -9, 2, 2}};
    for (int j = 0; j < 3; j++) {
      for (int i = 0; i < 5; i++) Office.due("job(" + j + ", " + (6 + i) + ")", x.job(j, 6 + i), want[j][i]);
    }
  }

  private static void refused(String scene, String call, Office.Call c) {
    Office.refused(call + ", " + scene, () -> Scenes.make(scene), c, -1);
  }

  private static CopierJobs job(int pages, int copies, int both, int sorted) {
    return Office.of("j" + pages + " " + copies + " " + both + " " + sorted + " 0;");
  }
}
