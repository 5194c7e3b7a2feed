/** Every boundary that the document names for TICKS and all that is done and UNDONE: promises 10 to 17. */
public final class DoneBoundsTest {
  private static final int LOW = Integer.MIN_VALUE, HIGH = Integer.MAX_VALUE;

  public static void main(String[] args) {
    ticksAre1To20();
    tickIs9999AtMost();
    whyItStandsAndWhichComesFirst();
    whatStandsDoesNothing();
    binHolds20();
    halfDone();
    allMade();
    withoutAJob();
    ahead();
    aheadIsRefused();
    brokenOff();
    breaksIsRefused();
    traysFilled();
    fillsIsRefused();
    tonerFilled();
    tonerIsRefused();
    emptied();
    emptiesIsRefused();
    tenAreKnown();
    eachOfSixIsUndone();
    whatIsNotKnown();
    undoIsRefused();
    nowFirstAndLast();
    nowIsRefused();
    Office.end("DoneBoundsTest");
  }

  /** 'n TICKS (1 .. 20): how many SHEETS came in them. BAD' */
  private static void ticksAre1To20() {
    CopierJobs x = Office.of("j9 9 0 0 0;");
    Office.due("ticks(1)", x.ticks(1), 1);
    Office.due("TICK", x.now(0), 1);
    Office.due("ticks(19)", x.ticks(19), 19);
    Office.due("TICK", x.now(0), 20);
    x = Office.of("t99 0 0;j9 9 0 0 0;");
    Office.due("ticks(20)", x.ticks(20), 20);
    Office.due("TICK", x.now(0), 20);
    x = Office.of("j9 9 1 0 0;");
    Office.due("ticks(20), two SIDES", x.ticks(20), 10);
    for (String scene : Scenes.NAMES) {
      for (int n : new int[] {0, -1, 21, LOW, HIGH}) refused(scene, "ticks(" + n + ")", y -> y.ticks(n), -1);
    }
  }

  /** 'A TICK (9999 at most)', 'STATE: it would be beyond 9999' */
  private static void tickIs9999AtMost() {
    lastTicks(9979, 20, 0, 9999);
    lastTicks(9980, 19, 0, 9999);
    lastTicks(9998, 1, 0, 9999);
    lastTicks(9980, 20, -2, 9980);
    lastTicks(9981, 19, -2, 9981);
    lastTicks(9981, 20, -2, 9981);
    lastTicks(9998, 2, -2, 9998);
    lastTicks(9999, 1, -2, 9999);
    lastTicks(9999, 20, -2, 9999);
    lastTicks(9999, 0, -1, 9999);
    lastTicks(9999, 21, -1, 9999);
    lastTicks(9999, HIGH, -1, 9999);
  }

  /** At most 500 calls to get there: few may follow. */
  private static void lastTicks(int from, int n, int want, int tick) {
    CopierJobs x = new CopierJobs();
    for (int i = 0; i < from / 20; i++) x.ticks(20);
    if (from % 20 != 0) x.ticks(from % 20);
    String call = "ticks(" + n + ") from " + from;
    Office.due(call, x.ticks(n), want);
    Office.due("TICK behind " + call, x.now(0), tick);
    Office.due("known behind " + call, x.count(3), 10);
    Office.due("undo() behind " + call, x.undo(), 9);
    int ahead = want >= 0 ? from : from % 20 != 0 ? from - from % 20 : from - 20;
    Office.due("TICK UNDONE behind " + call, x.now(0), ahead);
  }

  /** 'its TRAY is empty (1), else if TONER is less than SIDES (2), else if the BIN has 20 (3)' */
  private static void whyItStandsAndWhichComesFirst() {
    for (int sides = 1; sides <= 2; sides++) {
      for (int toner = 0; toner <= sides + 1; toner++) {
        for (int sheets = 0; sheets <= 2; sheets++) {
          for (int full = 0; full <= 1; full++) stands(sides, toner, sheets, full == 1);
        }
      }
    }
  }

  /** JOB 0 fills the only BIN from another TRAY; JOB 1 then comes to its only SHEET. */
  private static void stands(int sides, int toner, int sheets, boolean full) {
    String text = "t" + sheets + " 20 0;k" + (20 + toner) + ";b1;j5 4 0 0 1;j" + sides + " 1 1 0 0;";
    CopierJobs x = Office.of(text);
    Office.due("20 SHEETS", x.ticks(20), 20);
    if (!full) x.empties(0);
    int why = sheets == 0 ? 1 : toner < sides ? 2 : full ? 3 : 0;
    Office.due("why it STANDS, full " + full + ", " + text, x.now(3), why);
    Office.due("SHEETS by one TICK of " + text, x.ticks(1), why == 0 && sides == 1 ? 1 : 0);
    Office.due("HALF done of " + text, x.now(4), why == 0 && sides == 2 ? 1 : 0);
    Office.due("SHEETS by more TICKS of " + text, x.ticks(20), why == 0 && sides == 2 ? 1 : 0);
    Office.due("END of " + text, x.job(1, 8), why == 0 ? 20 + sides : -9);
    Office.due("TONER behind " + text, x.now(1), why == 0 ? toner - sides : toner);
    Office.due("TRAY behind " + text, x.tray(0, 0), why == 0 ? sheets - 1 : sheets);
    Office.due("BIN behind " + text, x.bin(0), (full ? 20 : 0) + (why == 0 ? 1 : 0));
  }

  /** 'nothing happens': but the TICK goes on, and it is known. */
  private static void whatStandsDoesNothing() {
    String[] texts = {"t0 9 9;j2 2 1 1 0;j1 1 0 0 1;", "k1;j2 2 1 1 0;j1 1 0 0 1;", "k0;j1 2 0 1 0;j1 1 0 0 1;"};
    for (String text : texts) {
      CopierJobs x = Office.of(text), twin = Office.of(text);
      Office.due("ticks(20) of what STANDS", x.ticks(20), 0);
      Office.due("TICK", x.now(0), 20);
      Office.due("known", x.count(3), 1);
      Office.same("all but the TICK", Office.moving(x).replaceFirst("now 20", "now 0"), Office.moving(twin));
      Office.due("the JOB behind it is not begun", x.job(1, 6), 0);
    }
  }

  /** 'each holds 20 SHEETS at most' */
  private static void binHolds20() {
    CopierJobs x = Office.of("t99 0 0;b1;j9 9 0 1 0;");
    x.ticks(19);
    Office.due("19 in the BIN", x.now(3), 0);
    Office.due("the 20th", x.ticks(1), 1);
    Office.due("bin(0)", x.bin(0), 20);
    Office.due("it STANDS", x.now(3), 3);
    Office.due("the 21st", x.ticks(20), 0);
    Office.due("bin(0)", x.bin(0), 20);
    x.empties(0);
    Office.due("20 more", x.ticks(20), 20);
    Office.due("bin(0)", x.bin(0), 20);
    // Only the BIN that the SHEET goes to matters: BIN 0 is full, the next copy goes to BIN 1.
    x = Office.of("t99 0 0;b2;j5 4 0 1 0;j9 3 0 0 0;j2 9 0 0 0;");
    x.breaks(0);
    Office.due("5 LEAVES to BIN 0, 4 to BIN 1", x.ticks(20), 20);
    x.ticks(7);
    Office.due("bin(0)", x.bin(0), 15);
    Office.due("bin(1)", x.bin(1), 12);
    Office.due("5 more to BIN 0", x.ticks(20), 5);
    Office.due("BIN 0 is full", x.now(3), 3);
    x.empties(1);
    Office.due("BIN 0 is still full", x.now(3), 3);
    x.empties(0);
    Office.due("BIN 0 is empty", x.now(3), 0);
  }

  /** 'if the SHEET has two SIDES and was not HALF done, it is HALF done; else it comes' */
  private static void halfDone() {
    CopierJobs x = Office.of("j3 2 1 1 0;");
    int[] came = {0, 1, 1, 0, 1, 1}, half = {1, 0, 0, 1, 0, 0}, toner = {200, 198, 197, 197, 195, 194};
    for (int i = 0; i < 6; i++) {
      Office.due("ticks(1), " + i, x.ticks(1), came[i]);
      Office.due("HALF done, " + i, x.now(4), half[i]);
      Office.due("TONER, " + i, x.now(1), toner[i]);
      Office.due("TRAY, " + i, x.tray(0, 0), 20 - x.job(0, 6));
      Office.due("BINS, " + i, x.now(6), x.job(0, 6));
    }
    Office.due("END", x.job(0, 8), 6);
    x = Office.of("j2 1 0 0 0;j1 1 1 0 0;");
    Office.due("one SIDE is never HALF done", x.ticks(3), 3);
    // The last TONER and the last SHEET are enough.
    x = Office.of("t1 0 0;k2;j2 1 1 0 0;");
    x.ticks(1);
    Office.due("HALF done with the last", x.now(4), 1);
    Office.due("it does not STAND", x.now(3), 0);
    Office.due("it comes", x.ticks(1), 1);
    Office.due("TONER", x.now(1), 0);
    Office.due("TRAY", x.tray(0, 0), 0);
  }

  /** 'With ALL MADE the JOB ends (END: the TICK, the first is 1) and leaves THE QUEUE.' */
  private static void allMade() {
    CopierJobs x = Office.of("j1 1 0 0 0;j2 1 1 0 0;j1 1 0 0 0;");
    Office.due("ticks(1)", x.ticks(1), 1);
    Office.due("END by the first TICK", x.job(0, 8), 1);
    Office.due("it has left THE QUEUE", x.job(0, 7), -9);
    Office.due("the next is the first", x.now(2), 1);
    Office.due("JOBS in THE QUEUE", x.now(5), 2);
    x.ticks(1);
    Office.due("one TICK ahead of its END", x.job(1, 8), -9);
    Office.due("still in THE QUEUE", x.job(1, 7), 0);
    Office.due("two JOBS in ticks(20)", x.ticks(20), 2);
    Office.due("END", x.job(1, 8), 3);
    Office.due("END of the last", x.job(2, 8), 4);
    Office.due("JOBS in THE QUEUE", x.now(5), 0);
    x = Office.of("t99 0 0;k999;b6;j9 9 0 0 0;");
    for (int i = 0; i < 4; i++) x.ticks(20);
    Office.due("80 of 81 MADE", x.job(0, 6), 80);
    Office.due("not ended", x.job(0, 8), -9);
    Office.due("one LEFT", x.job(0, 10), 1);
    x.ticks(1);
    Office.due("81 of 81 MADE", x.job(0, 6), 81);
    Office.due("END", x.job(0, 8), 81);
  }

  /** 'Without a JOB nothing comes.' */
  private static void withoutAJob() {
    CopierJobs x = new CopierJobs();
    Office.due("ticks(20) without a JOB", x.ticks(20), 0);
    Office.due("TICK", x.now(0), 20);
    Office.due("known", x.count(3), 1);
    Office.due("TONER", x.now(1), 200);
    Office.due("HALF done", x.now(4), 0);
    x = Office.of("j2 1 1 0 0;");
    x.ticks(1);
    x.breaks(0);
    Office.due("ticks(20), broken off", x.ticks(20), 0);
    Office.due("SHEETS in BINS", x.now(6), 0);
    Office.due("HALF done", x.now(4), 0);
  }

  /** 'a JOB that is in THE QUEUE, but not the first, comes to its head (nothing is HALF done then)' */
  private static void ahead() {
    String six = "j2 2 1 0 0;".repeat(6);
    for (int j = 1; j < 6; j++) {
      CopierJobs x = Office.of(six);
      x.ticks(3);
      Office.due("HALF done", x.now(4), 1);
      Office.due("ahead(" + j + ")", x.ahead(j), 0);
      Office.due("nothing is HALF done", x.now(4), 0);
      for (int other = 0; other < 6; other++) {
        int place = other == j ? 0 : other < j ? other + 1 : other;
        Office.due("place of JOB " + other + " behind ahead(" + j + ")", x.job(other, 7), place);
      }
      Office.due("MADE stays", x.job(0, 6), 1);
      Office.due("one TICK makes HALF a SHEET", x.ticks(1), 0);
      Office.due("ahead(0)", x.ahead(0), j);
      Office.due("the HALF is gone", x.ticks(1), 0);
      Office.due("it comes", x.ticks(1), 1);
    }
  }

  private static void aheadIsRefused() {
    for (String scene : Scenes.NAMES) {
      int jobs = Scenes.make(scene).count(1);
      for (int j : new int[] {-1, jobs, 6, LOW, HIGH}) refused(scene, "ahead(" + j + ")", x -> x.ahead(j), -1);
    }
    refused("half done", "ahead of the first", x -> x.ahead(1), -2);
    refused("standing", "ahead of the first", x -> x.ahead(0), -2);
    refused("full", "ahead of the first", x -> x.ahead(0), -2);
    refused("ended", "ahead of one that ended", x -> x.ahead(0), -2);
    refused("ended", "ahead of one broken off", x -> x.ahead(1), -2);
    Office.due("ahead of the second", Scenes.make("half done").ahead(0), 1);
    Office.due("ahead of the last", Scenes.make("half done").ahead(2), 1);
  }

  /** 'a JOB leaves THE QUEUE (if it was the first, nothing is HALF done then)' */
  private static void brokenOff() {
    String six = "j4 1 1 0 0;".repeat(6);
    for (int j = 0; j < 6; j++) {
      CopierJobs x = Office.of(six);
      x.ticks(3);
      Office.due("breaks(" + j + ")", x.breaks(j), 5);
      Office.due("HALF done behind breaks(" + j + ")", x.now(4), j == 0 ? 0 : 1);
      Office.due("first JOB", x.now(2), j == 0 ? 1 : 0);
      for (int other = 0; other < 6; other++) {
        int place = other == j ? -9 : other < j ? other : other - 1;
        Office.due("place of JOB " + other + " behind breaks(" + j + ")", x.job(other, 7), place);
      }
      Office.due("END", x.job(j, 8), -9);
      Office.due("MADE stays", x.job(0, 6), 1);
      Office.due("the next TICK", x.ticks(1), j == 0 ? 0 : 1);
    }
    CopierJobs x = Office.of(six);
    for (int j = 0; j < 6; j++) Office.due("breaks(" + j + "), one behind the other", x.breaks(j), 5 - j);
    Office.due("first JOB of none", x.now(2), -9);
  }

  private static void breaksIsRefused() {
    for (String scene : Scenes.NAMES) {
      int jobs = Scenes.make(scene).count(1);
      for (int j : new int[] {-1, jobs, 6, LOW, HIGH}) refused(scene, "breaks(" + j + ")", x -> x.breaks(j), -1);
    }
    refused("ended", "breaks of one that ended", x -> x.breaks(0), -2);
    refused("ended", "breaks of one broken off", x -> x.breaks(1), -2);
    for (int j = 0; j < 3; j++) Office.due("breaks(" + j + ")", Scenes.make("half done").breaks(j), 2);
  }

  /** 'FILLED: a TRAY (99 at most)', 'FILLED by n (1 .. 99): SHEETS then' */
  private static void traysFilled() {
    for (int t = 0; t < 3; t++) {
      for (int had : new int[] {0, 1, 50, 97, 98}) {
        for (int n : new int[] {1, 2, 49, 50, 98, 99}) {
          int[] told = {7, 7, 7};
          told[t] = had;
          CopierJobs x = Office.of("t" + told[0] + " " + told[1] + " " + told[2] + ";");
          int then = Math.min(99, had + n);
          Office.due("fills(" + t + ", " + n + ") of " + had, x.fills(t, n), then);
          for (int o = 0; o < 3; o++) Office.due("TRAY " + o, x.tray(o, 0), o == t ? then : 7);
          Office.due("undo()", x.undo(), 0);
          Office.due("TRAY as ahead of it", x.tray(t, 0), had);
        }
      }
    }
  }

  private static void fillsIsRefused() {
    for (String scene : Scenes.NAMES) {
      for (int t : new int[] {-1, 3, LOW, HIGH}) refused(scene, "fills(" + t + ", 1)", x -> x.fills(t, 1), -1);
      for (int n : new int[] {-1, 0, 100, LOW, HIGH}) refused(scene, "fills(2, " + n + ")", x -> x.fills(2, n), -1);
    }
    for (int n : new int[] {1, 99}) {
      refused("full", "fills(0, " + n + ") of 99", x -> x.fills(0, n), -2);
      refused("ended", "fills(2, " + n + ") of 99", x -> x.fills(2, n), -2);
    }
    Office.due("fills(2, 1) of 98", Scenes.make("half done").fills(2, 1), 99);
  }

  /** 'TONER (999 at most)', 'FILLED by n (1 .. 999): TONER then' */
  private static void tonerFilled() {
    for (int had : new int[] {0, 1, 500, 997, 998}) {
      for (int n : new int[] {1, 2, 499, 500, 998, 999}) {
        CopierJobs x = Office.of("k" + had + ";");
        Office.due("toner(" + n + ") of " + had, x.toner(n), Math.min(999, had + n));
        Office.due("TONER", x.now(1), Math.min(999, had + n));
        Office.due("undo()", x.undo(), 0);
        Office.due("TONER as ahead of it", x.now(1), had);
      }
    }
  }

  private static void tonerIsRefused() {
    for (String scene : Scenes.NAMES) {
      for (int n : new int[] {-1, 0, 1000, LOW, HIGH}) refused(scene, "toner(" + n + ")", x -> x.toner(n), -1);
    }
    refused("full", "toner(1) of 999", x -> x.toner(1), -2);
    refused("full", "toner(999) of 999", x -> x.toner(999), -2);
    Office.due("toner(1) of 998", Office.of("k998;").toner(1), 999);
  }

  /** 'EMPTIED: a BIN', 'how many it had' */
  private static void emptied() {
    for (int bins = 1; bins <= 6; bins++) {
      CopierJobs x = Office.of("b" + bins + ";j1 " + bins + " 0 1 0;");
      x.ticks(bins);
      Office.due("the last BIN had 1", x.empties(bins - 1), 1);
      for (int b = 0; b < bins; b++) Office.due("BIN " + b, x.bin(b), b == bins - 1 ? 0 : 1);
      Office.due("undo()", x.undo(), 1);
      Office.due("BIN as ahead of it", x.bin(bins - 1), 1);
    }
    CopierJobs x = Scenes.make("full");
    Office.due("a full BIN", x.empties(0), 20);
    Office.due("bin(0)", x.bin(0), 0);
    Office.due("MADE stays", x.job(0, 6), 20);
  }

  private static void emptiesIsRefused() {
    for (String scene : Scenes.NAMES) {
      int bins = Scenes.make(scene).count(0);
      for (int b : new int[] {-1, bins, 6, LOW, HIGH}) refused(scene, "empties(" + b + ")", x -> x.empties(b), -1);
    }
    for (int b = 0; b < 4; b++) {
      int bin = b;
      refused("fresh", "empties(" + b + ") of none", x -> x.empties(bin), -2);
    }
    refused("half done", "empties(1) of none", x -> x.empties(1), -2);
    refused("ended", "empties(0) again", x -> x.empties(0), -2);
  }

  /** '(10 are known, older ones are lost)' */
  private static void tenAreKnown() {
    for (int done = 0; done <= 23; done++) {
      CopierJobs x = Office.of("t99 0 0;b6;j9 9 0 0 0;");
      for (int i = 0; i < done; i++) x.ticks(1);
      int known = Math.min(10, done);
      Office.due("known of " + done, x.count(3), known);
      for (int i = 1; i <= known; i++) {
        Office.due("undo() " + i + " of " + done, x.undo(), known - i);
        Office.due("TICK", x.now(0), done - i);
        Office.due("MADE", x.job(0, 6), done - i);
      }
      Office.due("undo(), no more of " + done, x.undo(), -2);
      Office.due("TICK stays", x.now(0), done - known);
      // What is done then is known again.
      x.ticks(2);
      Office.due("undo() of a new one", x.undo(), 0);
      Office.due("TICK", x.now(0), done - known);
    }
  }

  /** 'the latest ticks(), ahead(), breaks(), fills(), toner(), empties() ..: all is as ahead of it' */
  private static void eachOfSixIsUndone() {
    Office.Call[] six = {x -> x.ticks(20), x -> x.ahead(2), x -> x.breaks(1), x -> x.fills(2, 99), x -> x.toner(999), x -> x.empties(0)};
    for (int i = 0; i < six.length; i++) {
      CopierJobs x = Scenes.make("half done"), twin = Scenes.make("half done");
      Office.due("call " + i + " is not refused", six[i].on(x) >= 0 ? 1 : 0, 1);
      Office.due("known behind call " + i, x.count(3), 4);
      Office.due("undo() of call " + i, x.undo(), 3);
      Office.same("all as ahead of call " + i, Office.all(x), Office.all(twin));
      Office.Call call = six[i];
      Office.Scene then = () -> Office.behind(() -> Office.behind(() -> Scenes.make("half done"), call), CopierJobs::undo);
      Office.same("what else may be UNDONE, call " + i, Office.undone(then), Office.undone(() -> Scenes.make("half done")));
    }
  }

  /** Only those six are known, and only if they were not refused. */
  private static void whatIsNotKnown() {
    Office.Call[] others = {y -> y.type('k'), y -> y.clear(), y -> y.sees(1, 1, 1), y -> y.forget(), y -> y.mark(4, 0),
        y -> y.keep(0), y -> y.back(1), y -> y.job(0, 9), y -> y.soon(1), y -> y.look()};
    for (int i = 0; i < others.length; i++) {
      CopierJobs y = Scenes.make("half done");
      others[i].on(y);
      // back(1) brings what was known as IMAGE 1 was kept: one.
      Office.due("known behind other call " + i, y.count(3), i == 6 ? 1 : 3);
    }
    CopierJobs x = Scenes.make("half done");
    int[] refused = {x.ticks(0), x.ahead(1), x.breaks(9), x.fills(0, 0), x.toner(0), x.empties(1)};
    for (int answer : refused) Office.due("refused", answer < 0 ? 1 : 0, 1);
    Office.due("known behind refused calls", x.count(3), 3);
    Office.due("undo() is not known itself", x.undo(), 2);
    Office.due("undo() again goes farther", x.undo(), 1);
  }

  private static void undoIsRefused() {
    refused("fresh", "undo() of none", CopierJobs::undo, -2);
    Office.Scene one = () -> {
      CopierJobs x = Scenes.make("half done");
      for (int i = 0; i < 3; i++) x.undo();
      return x;
    };
    Office.refused("undo(), all UNDONE", one, CopierJobs::undo, -2);
    Office.Scene lost = () -> {
      CopierJobs x = Scenes.make("full");
      for (int i = 0; i < 10; i++) x.undo();
      return x;
    };
    Office.refused("undo() of a lost one", lost, CopierJobs::undo, -2);
  }

  private static void nowFirstAndLast() {
    CopierJobs x = new CopierJobs();
    int[] none = {0, 200, -9, 0, 0, 0, 0, 0};
    for (int what = 0; what <= 7; what++) Office.due("now(" + what + ") without JOBS", x.now(what), none[what]);
    // 6 BINS of 20: no more SHEETS than 120 are in them.
    x = Office.of("t99 99 99;k999;b6;" + "j4 6 0 1 0;".repeat(2) + "j4 6 0 1 1;".repeat(2) + "j4 6 0 1 2;".repeat(2));
    for (int i = 0; i < 6; i++) x.ticks(20);
    Office.due("SHEETS in all BINS", x.now(6), 120);
    Office.due("it STANDS", x.now(3), 3);
    Office.due("the first JOB", x.now(2), 5);
    Office.due("JOBS in THE QUEUE", x.now(5), 1);
    Office.due("TONER", x.now(1), 879);
  }

  private static void nowIsRefused() {
    for (String scene : Scenes.NAMES) {
      for (int what : new int[] {-1, 8, LOW, HIGH}) refused(scene, "now(" + what + ")", x -> x.now(what), -1);
    }
  }

  private static void refused(String scene, String call, Office.Call c, int want) {
    Office.refused(call + ", " + scene, () -> Scenes.make(scene), c, want);
  }
}
