/** Promises 10 to 17: ticks, ahead, breaks, fills, toner, empties, undo, now. */
public final class DoneTest {
  public static void main(String[] args) {
    ticks();
    whyItStands();
    ahead();
    breaks();
    filled();
    emptied();
    undone();
    halfDoneUndone();
    Office.end("DoneTest");
  }

  private static void ticks() {
    CopierJobs x = Office.of("j3 1 1 0 0;j1 2 0 0 1;");
    for (int n : new int[] {0, -1, 21, Integer.MIN_VALUE, Integer.MAX_VALUE}) Office.due("ticks(" + n + ")", x.ticks(n), -1);
    Office.due("count(3), all refused", x.count(3), 0);
    Office.due("ticks(1)", x.ticks(1), 0);
    Office.due("half done", x.now(4), 1);
    Office.due("toner, half done", x.now(1), 200);
    Office.due("ticks(1)", x.ticks(1), 1);
    Office.due("toner, two sides", x.now(1), 198);
    Office.due("no more half done", x.now(4), 0);
    Office.due("ticks(1), one side", x.ticks(1), 1);
    Office.due("END", x.job(0, 8), 3);
    Office.due("first job", x.now(2), 1);
    Office.due("ticks(20)", x.ticks(20), 2);
    Office.due("END", x.job(1, 8), 5);
    Office.due("first job of none", x.now(2), -9);
    Office.due("sheets in bins", x.now(6), 4);
    Office.due("the tick", x.now(0), 23);
    Office.due("now(-1)", x.now(-1), -1);
    Office.due("now(8)", x.now(8), -1);
    farthestTick();
  }

  private static void farthestTick() {
    CopierJobs x = new CopierJobs();
    for (int i = 0; i < 499; i++) x.ticks(20);
    Office.due("tick 9980", x.now(0), 9980);
    Office.due("ticks(20) from 9980", x.ticks(20), -2);
    Office.due("ticks(21) from 9980", x.ticks(21), -1);
    Office.due("ticks(19) from 9980", x.ticks(19), 0);
    Office.due("ticks(1) from 9999", x.ticks(1), -2);
    Office.due("the tick", x.now(0), 9999);
    Office.due("undo()", x.undo(), 9);
    Office.due("the tick", x.now(0), 9980);
  }

  private static void whyItStands() {
    // All three are wanting: tray ahead of toner ahead of bin.
    CopierJobs x = Office.of("t21 0 0;k21;b1;j9 9 0 1 0;");
    Office.due("ticks(20)", x.ticks(20), 20);
    Office.due("full bin", x.now(3), 3);
    Office.due("ticks(1), bin full", x.ticks(1), 0);
    Office.due("the tick goes on", x.now(0), 21);
    Office.due("empties(0)", x.empties(0), 20);
    Office.due("ticks(1)", x.ticks(1), 1);
    Office.due("empty tray and no toner", x.now(3), 1);
    x.fills(0, 5);
    Office.due("no toner", x.now(3), 2);
    Office.due("how much toner wants", x.now(7), 60);
    x.toner(1);
    Office.due("nothing wanting", x.now(3), 0);
    x = Office.of("k5;j1 1 0 0 0;j4 1 0 0 0;j5 2 1 0 0;");
    Office.due("how much toner wants", x.now(7), 10);
    x.breaks(0);
    Office.due("how much toner wants, one broken off", x.now(7), 9);
    x.ticks(4);
    Office.due("how much toner wants, one ended", x.now(7), 9);
    x = Office.of("k1;j2 1 1 0 0;");
    Office.due("toner below two sides", x.now(3), 2);
    Office.due("ticks(2)", x.ticks(2), 0);
    Office.due("nothing half done", x.now(4), 0);
    Office.due("IN of what stands", x.job(0, 9), -9);
  }

  private static void ahead() {
    CopierJobs x = Office.of("j2 2 1 0 0;j1 1 0 0 0;j1 1 0 0 0;j1 1 0 0 0;");
    for (int j : new int[] {-1, 4, Integer.MIN_VALUE, Integer.MAX_VALUE}) Office.due("ahead(" + j + ")", x.ahead(j), -1);
    Office.due("ahead of the first", x.ahead(0), -2);
    x.ticks(1);
    Office.due("ahead(2)", x.ahead(2), 0);
    Office.due("nothing is half done", x.now(4), 0);
    places(x, 1, 2, 0, 3);
    Office.due("ahead(3)", x.ahead(3), 2);
    places(x, 2, 3, 1, 0);
    x.ticks(1);
    Office.due("ahead of one that ended", x.ahead(3), -2);
    Office.due("ahead(0)", x.ahead(0), 2);
    Office.due("half done anew", x.ticks(1), 0);
    Office.due("it comes", x.ticks(1), 1);
    x.breaks(1);
    Office.due("ahead of one broken off", x.ahead(1), -2);
  }

  private static void places(CopierJobs x, int... want) {
    for (int j = 0; j < want.length; j++) Office.due("place of job " + j, x.job(j, 7), want[j]);
  }

  private static void breaks() {
    CopierJobs x = Office.of("j2 1 1 0 0;j2 1 1 0 0;j2 1 1 0 0;");
    for (int j : new int[] {-1, 3, Integer.MIN_VALUE, Integer.MAX_VALUE}) Office.due("breaks(" + j + ")", x.breaks(j), -1);
    x.ticks(1);
    Office.due("breaks(1), not the first", x.breaks(1), 2);
    Office.due("still half done", x.now(4), 1);
    places(x, 0, -9, 1);
    Office.due("breaks(1) again", x.breaks(1), -2);
    Office.due("breaks(0), the first", x.breaks(0), 1);
    Office.due("nothing half done", x.now(4), 0);
    x.ticks(2);
    Office.due("breaks of one that ended", x.breaks(2), -2);
    Office.due("jobs in the queue", x.now(5), 0);
  }

  private static void filled() {
    CopierJobs x = Office.of("t0 90 99;k990;");
    Office.due("fills(-1, 1)", x.fills(-1, 1), -1);
    Office.due("fills(3, 1)", x.fills(3, 1), -1);
    Office.due("fills(0, 0)", x.fills(0, 0), -1);
    Office.due("fills(0, 100)", x.fills(0, 100), -1);
    Office.due("fills(2, 100), full", x.fills(2, 100), -1);
    Office.due("fills(2, 1), full", x.fills(2, 1), -2);
    Office.due("fills(0, 1)", x.fills(0, 1), 1);
    Office.due("fills(1, 99)", x.fills(1, 99), 99);
    Office.due("toner(0)", x.toner(0), -1);
    Office.due("toner(1000)", x.toner(1000), -1);
    Office.due("toner(-5)", x.toner(-5), -1);
    Office.due("toner(8)", x.toner(8), 998);
    Office.due("toner(999)", x.toner(999), 999);
    Office.due("toner(1), full", x.toner(1), -2);
    Office.due("toner(1000), full", x.toner(1000), -1);
    Office.due("count(3)", x.count(3), 4);
  }

  private static void emptied() {
    CopierJobs x = Office.of("b2;j1 3 0 1 0;");
    Office.due("empties(-1)", x.empties(-1), -1);
    Office.due("empties(2)", x.empties(2), -1);
    Office.due("empties(0), none", x.empties(0), -2);
    x.ticks(3);
    Office.due("empties(0)", x.empties(0), 2);
    Office.due("empties(0) again", x.empties(0), -2);
    Office.due("bin(1)", x.bin(1), 1);
    Office.due("sheets in bins", x.now(6), 1);
  }

  /** Each call that may be undone, one behind the other; then all back, but for the two oldest of twelve. */
  private static void undone() {
    Office.due("undo() of none", behindCalls(0).undo(), -2);
    for (int i = 0; i < 12; i++) {
      CopierJobs x = behindCalls(i);
      Office.due("call " + i, call(x, i) >= 0 ? 1 : 0, 1);
      Office.due("known behind call " + i, x.count(3), Math.min(10, i + 1));
    }
    for (int i = 11; i >= 2; i--) {
      CopierJobs x = behindCalls(12);
      for (int later = 11; later > i; later--) x.undo();
      Office.due("undo() of call " + i, x.undo(), i - 2);
      Office.same("all ahead of call " + i, Office.moving(x), Office.moving(behindCalls(i)));
    }
    CopierJobs x = behindCalls(12);
    for (int i = 0; i < 10; i++) x.undo();
    Office.due("undo() of a lost one", x.undo(), -2);
    Office.same("all behind that", Office.moving(x), Office.moving(behindCalls(2)));
  }

  private static CopierJobs behindCalls(int n) {
    CopierJobs x = Office.of("t9 9 9;k50;b2;j3 2 1 1 0;j2 2 0 0 1;j9 1 0 1 2;");
    for (int i = 0; i < n; i++) call(x, i);
    return x;
  }

  private static int call(CopierJobs x, int i) {
    switch (i % 6) {
      case 0: return x.ticks(i == 0 ? 1 : 4);
      case 1: return x.ahead(i == 1 ? 1 : 2);
      case 2: return x.toner(5);
      case 3: return i == 3 ? x.ticks(2) : x.breaks(2);
      case 4: return x.empties(0);
      default: return x.fills(1, 7);
    }
  }

  private static void halfDoneUndone() {
    CopierJobs x = Office.of("j2 2 1 0 0;j1 1 0 0 0;");
    x.ticks(1);
    x.breaks(0);
    Office.due("undo() of breaks", x.undo(), 1);
    Office.due("half done again", x.now(4), 1);
    x.ahead(1);
    Office.due("undo() of ahead", x.undo(), 1);
    Office.due("half done again", x.now(4), 1);
    x.ticks(5);
    Office.due("END", x.job(1, 8), 5);
    Office.due("undo() of ticks", x.undo(), 1);
    Office.due("END no more", x.job(1, 8), -9);
    Office.due("undo() of the first", x.undo(), 0);
    Office.due("nothing half done", x.now(4), 0);
    x.ticks(2);
    x.fills(5, 5);
    x.ahead(0);
    Office.due("undo(), refused calls are not known", x.undo(), 0);
    Office.due("the tick", x.now(0), 0);
  }
}
