/** Every boundary that the document names for KINDS, THE TRACE and IMAGES: promises 24 to 28. */
public final class KindsBoundsTest {
  private static final int LOW = Integer.MIN_VALUE, HIGH = Integer.MAX_VALUE;

  public static void main(String[] args) {
    everyKindOfEveryJob();
    marksBelow0();
    markIsRefused();
    traceOfEachKind();
    traceStays();
    twoImages();
    imageOverAnImage();
    whatAnImageKeeps();
    whatAnImageDoesNotKeep();
    imageOfTenKnown();
    imagesAreGone();
    keepIsRefused();
    backIsBad();
    backIsState();
    countFirstAndLast();
    countIsRefused();
    Office.end("KindsBoundsTest");
  }

  /** 'JOB its PAGES .. MEMO up, and its COPIES .. FLYER up, and the TICK' */
  private static void everyKindOfEveryJob() {
    CopierJobs x = Office.of("t99 99 99;j9 1 0 0 0;j1 9 1 0 0;j2 2 1 0 1;j3 3 0 1 1;j4 1 1 0 2;j5 5 0 1 2;");
    x.ticks(12);
    for (int j = 0; j < 6; j++) {
      int pages = x.job(j, 0), copies = x.job(j, 1), made = x.job(j, 6);
      int[] want = {pages, pages + copies, pages - made, 2 * (pages + copies), pages - made + j, pages + 12};
      for (int kind = 0; kind <= 5; kind++) Office.due("mark(" + kind + ", " + j + ")", x.mark(kind, j), want[kind]);
    }
    Office.due("MADE of JOB 1", x.job(1, 6), 3);
    Office.due("FLYER at TICK 0", Office.of("j3 1 0 0 0;").mark(5, 0), 3);
  }

  /** 'What none is, where a number may be below 0': marks of -1, -2, -3, -9 are not refusals. */
  private static void marksBelow0() {
    CopierJobs x = Office.of("t99 0 0;k999;b6;j1 9 0 0 0;j9 9 0 0 0;");
    int[] report = {1, 0, -1, -2, -3, -4, -5, -6, -7, -8};
    for (int made = 0; made < 10; made++) {
      Office.due("REPORT of 1 PAGE, MADE " + made, x.mark(2, 0), report[made]);
      Office.due("LEDGER of it", x.mark(4, 0), report[made]);
      Office.due("THE TRACE goes on", x.trace(), 10202L * (made + 1));
      if (made < 9) x.ticks(1);
    }
    x.empties(0);
    for (int i = 0; i < 4; i++) x.ticks(20);
    x.ticks(1);
    Office.due("least REPORT", x.mark(2, 1), -72);
    Office.due("least LEDGER", x.mark(4, 1), -71);
  }

  /** 'NO: BAD' */
  private static void markIsRefused() {
    for (String scene : Scenes.NAMES) {
      int jobs = Scenes.make(scene).count(1);
      for (int kind : new int[] {-1, 6, LOW, HIGH}) refused(scene, "mark(" + kind + ", 0)", x -> x.mark(kind, 0), -1000000);
      for (int j : new int[] {-1, jobs, 6, LOW, HIGH}) {
        for (int kind = 0; kind <= 5; kind++) {
          int asked = kind;
          refused(scene, "mark(" + kind + ", " + j + ")", x -> x.mark(asked, j), -1000000);
        }
      }
    }
  }

  /** 'numbers in brackets come to THE TRACE as often as mark() asks that body' */
  private static void traceOfEachKind() {
    long[] want = {1, 11, 101, 1011, 10101, 100001};
    for (int kind = 0; kind <= 5; kind++) {
      CopierJobs x = Office.of("j2 2 0 0 0;");
      for (int i = 1; i <= 30; i++) {
        x.mark(kind, 0);
        Office.due("THE TRACE of KIND " + kind + ", " + i, x.trace(), want[kind] * i);
      }
    }
    // As much as 500 calls can bring.
    CopierJobs x = Office.of("j2 2 0 0 0;");
    for (int i = 0; i < 498; i++) x.mark(5, 0);
    Office.due("most of THE TRACE", x.trace(), 49800498L);
  }

  /** Nothing but mark() changes THE TRACE. */
  private static void traceStays() {
    Office.Call[] calls = {x -> x.undo(), x -> x.back(1), x -> x.keep(0), x -> x.forget(), x -> x.clear(), x -> x.office(), x -> x.ticks(20),
        x -> x.mark(6, 0), x -> x.mark(0, 3)};
    for (int i = 0; i < calls.length; i++) {
      CopierJobs x = Scenes.make("half done");
      calls[i].on(x);
      Office.due("THE TRACE behind call " + i, x.trace(), 1011);
    }
  }

  /** 'IMAGES 0, 1' */
  private static void twoImages() {
    CopierJobs x = Office.of("j9 1 0 0 0;");
    x.ticks(1);
    Office.due("keep(0)", x.keep(0), 1);
    Office.due("back(1), none was kept", x.back(1), -2);
    x.ticks(1);
    Office.due("keep(1)", x.keep(1), 2);
    x.ticks(1);
    for (int i = 0; i < 3; i++) {
      Office.due("back(0)", x.back(0), 1);
      Office.due("MADE", x.job(0, 6), 1);
      x.ticks(2);
      Office.due("back(1)", x.back(1), 2);
      Office.due("MADE", x.job(0, 6), 2);
      x.ticks(2);
    }
    x = Office.of("j9 1 0 0 0;");
    Office.due("keep(1) at TICK 0", x.keep(1), 0);
    Office.due("back(0), none was kept", x.back(0), -2);
    x.ticks(5);
    Office.due("back(1) to TICK 0", x.back(1), 0);
    Office.due("MADE", x.job(0, 6), 0);
  }

  private static void imageOverAnImage() {
    CopierJobs x = Office.of("j9 1 0 0 0;");
    x.keep(0);
    x.keep(1);
    x.ticks(3);
    Office.due("keep(0) again", x.keep(0), 3);
    x.ticks(3);
    Office.due("back(0)", x.back(0), 3);
    Office.due("the other is as it was", x.back(1), 0);
    Office.due("back(0) behind back(1)", x.back(0), 3);
    Office.due("keep(1) of what came back", x.keep(1), 3);
    Office.due("back(1)", x.back(1), 3);
    Office.due("known", x.count(3), 1);
  }

  /** 'the TICK, THE QUEUE, what is MADE, HALF done, ENDS, TRAYS, TONER, BINS, what may be UNDONE' */
  private static void whatAnImageKeeps() {
    Office.Call[] calls = {x -> x.ticks(1), x -> x.ticks(20), x -> x.ahead(2), x -> x.breaks(1), x -> x.breaks(0), x -> x.fills(0, 99),
        x -> x.fills(1, 3), x -> x.fills(2, 1), x -> x.toner(1), x -> x.empties(0), x -> x.undo()};
    for (int image = 0; image < 2; image++) {
      for (int i = 0; i < calls.length; i++) {
        CopierJobs x = Scenes.make("half done");
        x.keep(image);
        Office.due("call " + i + " is not refused", calls[i].on(x) >= 0 ? 1 : 0, 1);
        Office.due("back(" + image + ") behind call " + i, x.back(image), 3);
        Office.same("all behind it, call " + i, Office.all(x), Office.all(Scenes.make("half done")));
        Office.Scene then = forthAndBack(calls[i], image);
        Office.same("what may be UNDONE, call " + i, Office.undone(then), Office.undone(() -> Scenes.make("half done")));
      }
    }
    // ENDS: what ended is not ended then, and the other way.
    CopierJobs x = Office.of("j1 1 0 0 0;");
    x.keep(0);
    x.ticks(1);
    x.keep(1);
    x.back(0);
    Office.due("not ended", x.job(0, 8), -9);
    x.back(1);
    Office.due("ended", x.job(0, 8), 1);
  }

  private static Office.Scene forthAndBack(Office.Call call, int image) {
    return () -> {
      CopierJobs x = Scenes.make("half done");
      x.keep(image);
      call.on(x);
      x.back(image);
      return x;
    };
  }

  /** 'nothing else' */
  private static void whatAnImageDoesNotKeep() {
    CopierJobs x = Office.of("j1 1 0 0 0;j2 1 0 0 0;");
    x.keep(0);
    x.sees(1, 2, 1);
    x.mark(5, 0);
    Office.type(x, "k5;");
    x.back(0);
    Office.due("SEEN stays", x.count(2), 1);
    Office.due("WHOSE stays", x.whose(), 2);
    Office.due("THE TRACE stays", x.trace(), 100001);
    Office.due("THE TEXT stays", x.count(4), 3);
    x.keep(1);
    Office.due("the other IMAGE is not kept in one", x.back(0), 0);
    Office.due("IMAGE 1 stays", x.back(1), 0);
    Office.due("office() of THE TEXT", x.office(), 1);
    Office.due("TONER", x.now(1), 5);
  }

  private static void imageOfTenKnown() {
    for (int done : new int[] {0, 1, 9, 10, 11, 25}) {
      CopierJobs x = new CopierJobs();
      for (int i = 0; i < done; i++) x.ticks(1);
      int known = Math.min(10, done);
      Office.due("keep(0)", x.keep(0), done);
      for (int i = 0; i < 12; i++) x.ticks(3);
      Office.due("back(0)", x.back(0), done);
      Office.due("known of " + done, x.count(3), known);
      for (int i = 1; i <= known; i++) {
        Office.due("undo() " + i + " of " + done, x.undo(), known - i);
        Office.due("TICK", x.now(0), done - i);
      }
      Office.due("undo(), no more", x.undo(), -2);
      // The IMAGE is as it was, whatever was UNDONE behind it.
      x.ticks(7);
      Office.due("back(0) again", x.back(0), done);
      Office.due("known again", x.count(3), known);
    }
  }

  /** 'IMAGES are gone' when the text is read anew; but not by a FAULT. */
  private static void imagesAreGone() {
    for (String text : new String[] {"", "k5;", "j1 1 0 0 0;"}) {
      CopierJobs x = Scenes.make("full");
      Office.read(x, text);
      Office.due("back(0) anew", x.back(0), -2);
      Office.due("back(1) anew", x.back(1), -2);
      Office.due("keep(1) anew", x.keep(1), 0);
      Office.due("back(0), still none", x.back(0), -2);
      Office.due("back(1)", x.back(1), 0);
    }
    CopierJobs x = Scenes.make("full");
    Office.read(x, "k5");
    Office.due("back(0) behind a FAULT", x.back(0), 40);
    Office.due("back(1) behind a FAULT", x.back(1), 48);
  }

  private static void keepIsRefused() {
    for (String scene : Scenes.NAMES) {
      for (int image : new int[] {-1, 2, LOW, HIGH}) refused(scene, "keep(" + image + ")", x -> x.keep(image), -1);
    }
  }

  private static void backIsBad() {
    for (String scene : Scenes.NAMES) {
      for (int image : new int[] {-1, 2, LOW, HIGH}) refused(scene, "back(" + image + ")", x -> x.back(image), -1);
    }
  }

  /** 'STATE: none was kept' */
  private static void backIsState() {
    refused("fresh", "back(0), none", x -> x.back(0), -2);
    refused("fresh", "back(1), none", x -> x.back(1), -2);
    refused("half done", "back(0), none", x -> x.back(0), -2);
    refused("standing", "back(1), none", x -> x.back(1), -2);
    refused("ended", "back(1), none", x -> x.back(1), -2);
  }

  /** '0 BINS, 1 JOBS, 2 SEEN, 3 how many may be UNDONE, 4 bytes of THE TEXT' */
  private static void countFirstAndLast() {
    int[][] want = {{4, 0, 0, 0, 0}, {2, 3, 2, 3, 6}, {4, 2, 1, 1, 4}, {1, 2, 6, 10, 120}, {6, 2, 0, 3, 0}};
    for (int i = 0; i < Scenes.NAMES.length; i++) {
      CopierJobs x = Scenes.make(Scenes.NAMES[i]);
      for (int what = 0; what < 5; what++) Office.due("count(" + what + "), " + Scenes.NAMES[i], x.count(what), want[i][what]);
    }
    Office.due("most JOBS", Office.of("j1 1 0 0 0;".repeat(6)).count(1), 6);
  }

  private static void countIsRefused() {
    for (String scene : Scenes.NAMES) {
      for (int what : new int[] {-1, 5, LOW, HIGH}) refused(scene, "count(" + what + ")", x -> x.count(what), -1);
    }
  }

  private static void refused(String scene, String call, Office.Call c, int want) {
    Office.refused(call + ", " + scene, () -> Scenes.make(scene), c, want);
  }
}
