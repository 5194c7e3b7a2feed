/** Every boundary that the document names for IN, LEFT, SOON, WANTS and ODDS: promises 5, 8, 17, 18, 19. */
public final class ReckonBoundsTest {
  private static final int LOW = Integer.MIN_VALUE, HIGH = Integer.MAX_VALUE;

  public static void main(String[] args) {
    leastIn();
    mostIn();
    inByTheLastOfAll();
    inOfWhatIsNotInTheQueue();
    left();
    soonOfNone();
    soonOfOneAndOfSix();
    soonIsRefused();
    traysWant();
    tonerWants();
    oddsFirstAndLast();
    oddsOfAll();
    oddsIsBad();
    oddsIsState();
    nothingIsChanged();
    Office.end("ReckonBoundsTest");
  }

  /** 'behind how many TICKS it ends, if nothing else is done (1 .. 400)' */
  private static void leastIn() {
    CopierJobs x = Office.of("j1 1 0 0 0;j2 1 1 0 0;");
    Office.due("IN of one SHEET", x.job(0, 9), 1);
    Office.due("IN of the next", x.job(1, 9), 3);
    x.ticks(1);
    Office.due("IN of two SIDES", x.job(1, 9), 2);
    x.ticks(1);
    Office.due("IN of a SHEET that is HALF done", x.job(1, 9), 1);
    x.ticks(1);
    Office.due("IN of what ended", x.job(1, 9), -9);
  }

  /** BINS hold 120 SHEETS of two SIDES, so no JOB ends behind more than 240 TICKS. */
  private static void mostIn() {
    CopierJobs x = Office.of("t99 99 99;k999;b6;" + "j8 6 1 1 0;".repeat(2) + "j8 6 1 1 1;".repeat(2) + "j8 6 1 1 2;".repeat(2));
    for (int j = 0; j < 5; j++) Office.due("IN of JOB " + j, x.job(j, 9), 48 * (j + 1));
    Office.due("IN, the BINS being full", x.job(5, 9), -9);
    for (int i = 0; i < 12; i++) x.ticks(20);
    Office.due("END", x.job(4, 8), 240);
  }

  /** 'or does not': what is just enough, and one less. */
  private static void inByTheLastOfAll() {
    Office.due("IN by the last SHEET", Office.of("t9 0 0;j3 3 0 0 0;").job(0, 9), 9);
    Office.due("IN without the last SHEET", Office.of("t8 0 0;j3 3 0 0 0;").job(0, 9), -9);
    Office.due("IN by the last TONER", Office.of("k9;j3 3 0 0 0;").job(0, 9), 9);
    Office.due("IN without the last TONER", Office.of("k8;j3 3 0 0 0;").job(0, 9), -9);
    Office.due("IN by the last TONER, two SIDES", Office.of("k4;j4 1 1 0 0;").job(0, 9), 4);
    Office.due("IN without it, two SIDES", Office.of("k3;j4 1 1 0 0;").job(0, 9), -9);
    Office.due("IN by a full BIN", Office.of("b1;j5 4 0 0 0;").job(0, 9), 20);
    Office.due("IN beyond a full BIN", Office.of("t99 0 0;b1;j7 3 0 0 0;").job(0, 9), -9);
    CopierJobs x = Office.of("t99 0 0;j1 1 0 0 1;j1 1 0 0 0;");
    Office.due("IN behind one that STANDS", x.job(1, 9), -9);
    x.ahead(1);
    Office.due("IN ahead of one that STANDS", x.job(1, 9), 1);
    Office.due("IN of the one that STANDS", x.job(0, 9), -9);
    x.fills(1, 1);
    Office.due("IN, filled", x.job(0, 9), 2);
  }

  /** 'NONE (it is not in THE QUEUE ..)' */
  private static void inOfWhatIsNotInTheQueue() {
    CopierJobs x = Scenes.make("ended");
    Office.due("IN of what ended", x.job(0, 9), -9);
    Office.due("IN of what was broken off", x.job(1, 9), -9);
    x.undo();
    x.undo();
    Office.due("in THE QUEUE again", x.job(1, 7), 0);
    Office.due("IN, its TRAY being empty", x.job(1, 9), -9);
  }

  /** 'SIDES of all its SHEETS that are not MADE', '10 LEFT (0: it is not in THE QUEUE)' */
  private static void left() {
    Office.due("most LEFT, one side", Office.of("j9 9 0 0 0;").job(0, 10), 81);
    Office.due("most LEFT, BOTH", Office.of("j9 9 1 1 0;").job(0, 10), 81);
    Office.due("least LEFT", Office.of("j1 1 1 1 0;").job(0, 10), 1);
    CopierJobs x = Office.of("j3 1 1 0 0;j2 2 1 0 0;");
    int[] first = {3, 3, 1, 0}, second = {4, 4, 4, 4};
    for (int i = 0; i < 4; i++) {
      Office.due("LEFT behind " + i + " TICKS", x.job(0, 10), first[i]);
      Office.due("LEFT of the other", x.job(1, 10), second[i]);
      x.ticks(1);
    }
    x.breaks(1);
    Office.due("LEFT of what was broken off", x.job(1, 10), 0);
    x.undo();
    Office.due("LEFT, UNDONE", x.job(1, 10), 4);
  }

  /** 'that sum; the order, as a number (.. 0: there is none)' */
  private static void soonOfNone() {
    for (String scene : new String[] {"fresh", "ended"}) {
      Office.due("soon(0) of none", Scenes.make(scene).soon(0), 0);
      Office.due("soon(1) of none", Scenes.make(scene).soon(1), 0);
    }
  }

  private static void soonOfOneAndOfSix() {
    soon("j1 1 0 0 0;", 1, 1);
    soon("j9 9 1 1 0;", 81, 1);
    soon("j9 9 0 0 0;".repeat(6), 81 * 21, 123456);
    soon("j1 1 0 0 0;".repeat(6), 21, 123456);
    soon("j6 1 0 0 0;j5 1 0 0 0;j4 1 0 0 0;j3 1 0 0 0;j2 1 0 0 0;j1 1 0 0 0;", 56, 654321);
    soon("j2 1 0 0 0;j1 1 0 0 0;j2 1 1 0 0;j1 1 1 0 0;j1 2 0 1 0;j1 1 0 0 2;", 1 + 2 + 3 + 5 + 7 + 9, 246135);
    // THE QUEUE's own order does not matter, nor does what is wanting.
    CopierJobs x = Office.of("t0 0 0;k0;" + "j1 1 0 0 0;".repeat(3));
    x.ahead(2);
    x.ahead(1);
    Office.due("soon(1), all wanting", x.soon(1), 123);
    Office.due("soon(0), all wanting", x.soon(0), 6);
    x.breaks(0);
    Office.due("soon(1), one broken off", x.soon(1), 23);
    // SHEETS that are MADE are not LEFT: what was longer is then shorter.
    x = Office.of("j4 1 0 0 0;j3 1 0 0 0;");
    Office.due("soon(1)", x.soon(1), 21);
    x.ticks(1);
    Office.due("soon(1), one MADE: both alike", x.soon(1), 12);
    Office.due("soon(0), one MADE", x.soon(0), 9);
  }

  private static void soon(String text, int sum, int order) {
    CopierJobs x = Office.of(text);
    Office.due("soon(0) of " + text, x.soon(0), sum);
    Office.due("soon(1) of " + text, x.soon(1), order);
  }

  private static void soonIsRefused() {
    for (String scene : Scenes.NAMES) {
      for (int what : new int[] {-1, 2, LOW, HIGH}) refused(scene, "soon(" + what + ")", x -> x.soon(what), -1);
    }
  }

  /** 'how many SHEETS a TRAY .. has too few for all that is LEFT in THE QUEUE (0: none)' */
  private static void traysWant() {
    for (int t = 0; t < 3; t++) {
      for (int sheets = 0; sheets <= 14; sheets++) {
        int[] told = {0, 0, 0};
        told[t] = sheets;
        CopierJobs x = Office.of("t" + told[0] + " " + told[1] + " " + told[2] + ";j3 3 0 0 " + t + ";j5 1 1 0 " + t + ";");
        Office.due("WANTS of 12 SHEETS, having " + sheets, x.tray(t, 1), Math.max(0, 12 - sheets));
        for (int o = 0; o < 3; o++) if (o != t) Office.due("WANTS of none", x.tray(o, 1), 0);
      }
    }
    CopierJobs x = Office.of("t0 0 0;k999;b6;" + "j9 9 0 0 1;".repeat(6));
    Office.due("most SHEETS that WANT", x.tray(1, 1), 486);
    for (int j = 0; j < 6; j++) {
      x.breaks(j);
      Office.due("WANTS, broken off", x.tray(1, 1), 81 * (5 - j));
    }
    x = Office.of("t3 0 0;j2 2 1 0 0;j2 1 0 0 0;");
    Office.due("WANTS", x.tray(0, 1), 1);
    x.ticks(1);
    Office.due("WANTS, HALF done", x.tray(0, 1), 1);
    x.ticks(3);
    Office.due("WANTS, one ended", x.tray(0, 1), 1);
    x.fills(0, 1);
    Office.due("WANTS, just enough", x.tray(0, 1), 0);
    // What is MADE of a JOB that is in THE QUEUE still is not wanted again.
    x = Office.of("t5 0 0;j9 1 0 0 0;");
    for (int made = 0; made <= 5; made++) {
      Office.due("WANTS, MADE " + made, x.tray(0, 1), 4);
      Office.due("TONER WANTS, MADE " + made, x.now(7), 0);
      x.ticks(1);
    }
  }

  /** 'how much TONER has too few for all that is LEFT in THE QUEUE (0: none)' */
  private static void tonerWants() {
    for (int toner = 0; toner <= 16; toner++) {
      CopierJobs x = Office.of("k" + toner + ";j3 3 0 0 0;j5 1 1 0 1;");
      Office.due("WANTS of 14 TONER, having " + toner, x.now(7), Math.max(0, 14 - toner));
    }
    CopierJobs x = Office.of("k0;" + "j9 9 1 0 1;".repeat(6));
    Office.due("most TONER that WANTS", x.now(7), 486);
    x = Office.of("k3;j2 1 1 0 0;j2 1 0 0 0;");
    Office.due("TONER WANTS", x.now(7), 1);
    x.ticks(1);
    Office.due("TONER WANTS, HALF done", x.now(7), 1);
    x.ticks(1);
    Office.due("TONER WANTS, one ended", x.now(7), 1);
    x.toner(1);
    Office.due("TONER WANTS, just enough", x.now(7), 0);
    x.toner(1);
    Office.due("TONER WANTS, more than enough", x.now(7), 0);
    x = Office.of("k0;j2 1 0 0 0;");
    x.breaks(0);
    Office.due("TONER WANTS, broken off", x.now(7), 0);
  }

  /** 'n (1 .. 4), a PAGE', 'a fraction', 'in least terms' */
  private static void oddsFirstAndLast() {
    CopierJobs x = Office.of("j9 9 0 0 0;j9 9 1 1 0;j5 1 0 0 0;j6 2 1 0 0;");
    for (int page : new int[] {1, 9}) {
      fraction(x, 0, 1, page, 1, 9);
      fraction(x, 0, 2, page, 19, 90);
      fraction(x, 0, 4, page, 7055, 18486);
      fraction(x, 1, 1, page, 1, 5);
    }
    for (int n = 1; n <= 4; n++) {
      fraction(x, 2, n, 1, n, 5);
      fraction(x, 2, n, 5, n, 5);
    }
    fraction(x, 3, 1, 6, 1, 3);
    fraction(x, 3, 2, 6, 3, 5);
    fraction(x, 3, 3, 6, 4, 5);
    fraction(x, 3, 4, 6, 14, 15);
  }

  /** As many are drawn as there are, or the PAGE is on all of them: it is sure, and least terms are 1 and 1. */
  private static void oddsOfAll() {
    for (int n = 1; n <= 4; n++) {
      CopierJobs x = Office.of("j" + n + " 1 0 0 0;j1 9 0 0 0;j2 4 1 1 0;");
      for (int page = 1; page <= n; page++) fraction(x, 0, n, page, 1, 1);
      fraction(x, 1, n, 1, 1, 1);
      fraction(x, 2, n, 2, 1, 1);
    }
    // Fewer SHEETS are without the PAGE than are drawn.
    CopierJobs x = Office.of("j2 3 0 0 0;");
    fraction(x, 0, 3, 1, 19, 20);
    fraction(x, 0, 4, 1, 1, 1);
  }

  private static void fraction(CopierJobs x, int j, int n, int page, int upper, int lower) {
    String call = "odds(" + j + ", " + n + ", " + page + ", ";
    Office.due(call + "0)", x.odds(j, n, page, 0), upper);
    Office.due(call + "1)", x.odds(j, n, page, 1), lower);
  }

  private static void oddsIsBad() {
    for (String scene : Scenes.NAMES) {
      CopierJobs made = Scenes.make(scene);
      int jobs = made.count(1);
      for (int j : new int[] {-1, jobs, 6, LOW, HIGH}) refused(scene, "odds(" + j + ", 1, 1, 0)", x -> x.odds(j, 1, 1, 0), -1);
      for (int j = 0; j < jobs; j++) {
        int job = j, pages = made.job(j, 0);
        for (int n : new int[] {-1, 0, 5, LOW, HIGH}) refused(scene, "odds(" + j + ", " + n + ", 1, 0)", x -> x.odds(job, n, 1, 0), -1);
        for (int page : new int[] {-1, 0, pages + 1, 10, LOW, HIGH}) refused(scene, "odds(" + j + ", 1, " + page + ", 1)", x -> x.odds(job, 1, page, 1), -1);
        for (int what : new int[] {-1, 2, LOW, HIGH}) refused(scene, "odds(" + j + ", 1, 1, " + what + ")", x -> x.odds(job, 1, 1, what), -1);
      }
    }
  }

  /** 'STATE: it has fewer than n SHEETS': ALL of them, MADE or not; and BAD comes first. */
  private static void oddsIsState() {
    for (int all = 1; all <= 5; all++) {
      int sheets = all;
      Office.Scene scene = () -> {
        CopierJobs x = Office.of("j" + sheets + " 1 0 0 0;");
        x.ticks(1);
        return x;
      };
      for (int n = 1; n <= 4; n++) {
        int drawn = n;
        if (n <= all) {
          Office.due("odds of " + n + " of " + all, scene.make().odds(0, n, all, 1), n == all ? 1 : n == 2 && all == 4 ? 2 : all);
          continue;
        }
        Office.refused("odds of " + n + " of " + all, scene, x -> x.odds(0, drawn, 1, 0), -2);
        Office.refused("odds of " + n + " of " + all, scene, x -> x.odds(0, drawn, sheets, 1), -2);
        Office.refused("odds, no such PAGE", scene, x -> x.odds(0, drawn, sheets + 1, 0), -1);
        Office.refused("odds, no such what", scene, x -> x.odds(0, drawn, 1, 2), -1);
      }
      Office.refused("odds of 5", scene, x -> x.odds(0, 5, 1, 0), -1);
    }
    // BOTH: 3 PAGES are 2 SHEETS.
    Office.refused("odds of 3 of 2 LEAVES", () -> Office.of("j3 1 1 0 0;"), x -> x.odds(0, 3, 3, 0), -2);
    fraction(Office.of("j3 1 1 0 0;"), 0, 2, 3, 1, 1);
  }

  /** '(Nothing is changed.)' */
  private static void nothingIsChanged() {
    Office.Call[] asked = {x -> x.job(1, 9), x -> x.job(0, 10), x -> x.soon(0), x -> x.soon(1), x -> x.tray(0, 1), x -> x.now(7),
        x -> x.where(0, 1, 0), x -> x.odds(0, 2, 1, 0), x -> x.whose(), x -> x.look(), x -> x.sheet(0, 0, 2), x -> x.count(3)};
    for (String scene : Scenes.NAMES) {
      for (int i = 0; i < asked.length; i++) {
        Office.same("all behind asking " + i + ", " + scene, Office.whole(() -> Scenes.make(scene), asked[i]),
            Office.whole(() -> Scenes.make(scene), x -> 0));
      }
    }
  }

  private static void refused(String scene, String call, Office.Call c, int want) {
    Office.refused(call + ", " + scene, () -> Scenes.make(scene), c, want);
  }
}
