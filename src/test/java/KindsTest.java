/** Promises 24 to 28: mark, keep, back, count, trace. */
public final class KindsTest {
  public static void main(String[] args) {
    marks();
    wrongMarks();
    images();
    imagesHoldWhatMayBeUndone();
    imagesHoldNothingElse();
    counts();
    Office.end("KindsTest");
  }

  private static void marks() {
    CopierJobs x = Office.of("j1 1 0 0 0;j4 3 0 0 0;j2 9 0 0 1;");
    x.ticks(8);
    Office.due("MADE of job 1", x.job(1, 6), 7);
    int[][] want = {{4, 1}, {7, 11}, {-3, 101}, {14, 1011}, {-2, 10101}, {12, 100001}};
    long trace = 0;
    for (int kind = 0; kind < 6; kind++) {
      Office.due("mark(" + kind + ", 1)", x.mark(kind, 1), want[kind][0]);
      trace += want[kind][1];
      Office.due("trace()", x.trace(), trace);
    }
    Office.due("mark(4, 2)", x.mark(4, 2), 4);
    Office.due("trace()", x.trace(), trace + 10101);
    x.undo();
    Office.due("trace() behind undo()", x.trace(), trace + 10101);
    Office.due("mark(5, 0) at tick 0", x.mark(5, 0), 1);
  }

  private static void wrongMarks() {
    CopierJobs x = Office.of("j1 1 0 0 0;");
    int[][] bad = {{-1, 0}, {6, 0}, {0, -1}, {0, 1}, {5, 6}, {Integer.MAX_VALUE, 0}, {0, Integer.MIN_VALUE}};
    for (int[] b : bad) Office.due("mark, wrong numbers", x.mark(b[0], b[1]), -1000000);
    Office.due("trace(), all refused", x.trace(), 0);
    Office.due("mark(0, 0) without jobs", new CopierJobs().mark(0, 0), -1000000);
  }

  private static void images() {
    CopierJobs x = Office.of("b2;j3 2 1 1 0;j2 2 0 0 1;");
    for (int i : new int[] {-1, 2, Integer.MIN_VALUE, Integer.MAX_VALUE}) {
      Office.due("keep(" + i + ")", x.keep(i), -1);
      Office.due("back(" + i + ")", x.back(i), -1);
    }
    Office.due("back(0), none", x.back(0), -2);
    x.ticks(3);
    Office.due("keep(0)", x.keep(0), 3);
    Office.due("back(1), none", x.back(1), -2);
    String at3 = Office.done(x);
    x.ticks(2);
    x.ahead(1);
    x.ticks(2);
    x.empties(0);
    Office.due("keep(1)", x.keep(1), 7);
    String at7 = Office.done(x);
    Office.due("back(0)", x.back(0), 3);
    Office.same("all of image 0", Office.done(x), at3);
    x.fills(0, 5);
    x.toner(5);
    x.breaks(0);
    Office.due("back(1)", x.back(1), 7);
    Office.same("all of image 1", Office.done(x), at7);
    Office.due("back(0) again", x.back(0), 3);
    Office.same("all of image 0 again", Office.done(x), at3);
    Office.due("keep(1) over it", x.keep(1), 3);
    x.ticks(20);
    Office.due("back(1)", x.back(1), 3);
  }

  private static void imagesHoldWhatMayBeUndone() {
    CopierJobs x = Office.of("j9 9 0 1 0;");
    for (int i = 0; i < 13; i++) x.ticks(1);
    x.keep(0);
    for (int i = 0; i < 5; i++) x.undo();
    for (int i = 0; i < 7; i++) x.ticks(2);
    x.back(0);
    for (int i = 9; i >= 0; i--) {
      Office.due("undo() behind back(0)", x.undo(), i);
      Office.due("the tick", x.now(0), 3 + i);
    }
    Office.due("undo(), no more", x.undo(), -2);
    x.back(0);
    Office.due("the image is still whole", x.count(3), 10);
    Office.due("undo()", x.undo(), 9);
    Office.due("the tick", x.now(0), 12);
  }

  private static void imagesHoldNothingElse() {
    CopierJobs x = Office.of("j2 1 0 0 0;");
    x.keep(0);
    x.sees(0, 1, 1);
    x.type(65);
    x.mark(0, 0);
    x.back(0);
    Office.due("seen", x.count(2), 1);
    Office.due("text", x.count(4), 1);
    Office.due("trace", x.trace(), 1);
    Office.due("undo(), back() is not undone", x.undo(), -2);
  }

  private static void counts() {
    CopierJobs x = Office.of("b5;j2 1 0 0 0;j2 1 0 0 0;");
    x.ticks(1);
    x.ticks(1);
    x.ticks(1);
    x.sees(0, 1, 1);
    Office.type(x, "abcd");
    int[] want = {5, 2, 1, 3, 4};
    for (int what = 0; what < 5; what++) Office.due("count(" + what + ")", x.count(what), want[what]);
    for (int what : new int[] {-1, 5, Integer.MIN_VALUE, Integer.MAX_VALUE}) Office.due("count(" + what + ")", x.count(what), -1);
  }
}
