/** Every boundary that the document names for SEEN, WHOSE and LOOK: promises 20 to 23. */
public final class SeenBoundsTest {
  private static final int LOW = Integer.MIN_VALUE, HIGH = Integer.MAX_VALUE;

  public static void main(String[] args) {
    firstAndLastThatIsGood();
    seesIsBad();
    sixAtMost();
    forgetNoneAndSix();
    noSuchSheetHasNot();
    frontNotBack();
    endedOrNot();
    whoseOfNoneAndOfSix();
    lookNone();
    lookTheLeast();
    lookFar();
    theGreaterPart();
    whatLeavesSeenAlone();
    Office.end("SeenBoundsTest");
  }

  /** 'SHEET k (0 .. 80) has PAGE p (1 .. 9) in FRONT (1), or has not (0 ..)' */
  private static void firstAndLastThatIsGood() {
    CopierJobs x = Office.of("j9 9 0 0 0;j9 9 0 1 0;");
    int[][] good = {{0, 1, 1}, {80, 9, 1}, {0, 9, 0}, {80, 1, 0}, {1, 8, 0}, {79, 2, 0}};
    for (int i = 0; i < 6; i++) {
      Office.due("sees, good " + i, x.sees(good[i][0], good[i][1], good[i][2]), i + 1);
      Office.due("SEEN", x.count(2), i + 1);
      Office.due("WHOSE", x.whose(), 3);
    }
    x.forget();
    x.sees(80, 9, 0);
    Office.due("SHEET 80 has PAGE 9 in both", x.whose(), 0);
    x.forget();
    x.sees(0, 1, 0);
    Office.due("SHEET 0 has PAGE 1 in both", x.whose(), 0);
    x.forget();
    x.sees(79, 9, 1);
    Office.due("SHEET 79 has PAGE 9 in one", x.whose(), 1);
    x.forget();
    x.sees(79, 8, 1);
    Office.due("SHEET 79 has PAGE 8 in the other", x.whose(), 2);
  }

  private static void seesIsBad() {
    for (String scene : Scenes.NAMES) {
      for (int k : new int[] {-1, 81, LOW, HIGH}) refused(scene, "sees(" + k + ", 1, 1)", x -> x.sees(k, 1, 1), -1);
      for (int page : new int[] {-1, 0, 10, LOW, HIGH}) refused(scene, "sees(0, " + page + ", 1)", x -> x.sees(0, page, 1), -1);
      for (int there : new int[] {-1, 2, LOW, HIGH}) refused(scene, "sees(0, 1, " + there + ")", x -> x.sees(0, 1, there), -1);
    }
  }

  /** 'SEEN (6 at most)', 'BAD; FULL' */
  private static void sixAtMost() {
    for (int n = 0; n <= 6; n++) {
      int had = n;
      Office.Scene scene = () -> {
        CopierJobs x = Office.of("j2 2 0 1 0;j2 2 0 0 0;");
        for (int i = 0; i < had; i++) x.sees(0, 1, 1);
        return x;
      };
      if (n < 6) Office.due("sees behind " + n, scene.make().sees(1, 2, 1), n + 1);
      else Office.refused("sees behind 6", scene, x -> x.sees(1, 2, 1), -3);
    }
    refused("full", "sees(0, 1, 1), FULL", x -> x.sees(0, 1, 1), -3);
    refused("full", "sees(80, 9, 0), FULL", x -> x.sees(80, 9, 0), -3);
    refused("full", "sees(81, 9, 0), BAD ahead of FULL", x -> x.sees(81, 9, 0), -1);
    refused("full", "sees(0, 0, 0), BAD ahead of FULL", x -> x.sees(0, 0, 0), -1);
    refused("full", "sees(0, 1, 2), BAD ahead of FULL", x -> x.sees(0, 1, 2), -1);
    // The sixth matters as the first does.
    CopierJobs x = Office.of("j2 2 0 1 0;j2 2 0 0 0;");
    for (int i = 0; i < 5; i++) x.sees(0, 1, 1);
    Office.due("WHOSE by five", x.whose(), 3);
    x.sees(1, 2, 1);
    Office.due("WHOSE by six", x.whose(), 1);
  }

  private static void forgetNoneAndSix() {
    CopierJobs x = Scenes.make("full");
    String ahead = Office.done(x);
    Office.due("forget() of six", x.forget(), 6);
    Office.due("SEEN", x.count(2), 0);
    Office.due("WHOSE", x.whose(), 3);
    Office.due("forget() of none", x.forget(), 0);
    Office.same("all that is done", Office.done(x), ahead);
    for (int i = 1; i <= 6; i++) Office.due("sees then", x.sees(80, 9, 0), i);
    Office.due("sees then, FULL", x.sees(80, 9, 0), -3);
  }

  /** 'where there is no such SHEET, it has not' */
  private static void noSuchSheetHasNot() {
    // 6 SHEETS: 0 .. 5, the last with PAGE 3.
    int[][] seen = {{5, 3, 1, 1}, {5, 3, 0, 0}, {6, 3, 1, 0}, {6, 3, 0, 1}, {6, 1, 1, 0}, {6, 1, 0, 1}, {80, 1, 1, 0}, {80, 1, 0, 1}};
    for (int[] s : seen) {
      for (int sorted = 0; sorted < 2; sorted++) {
        CopierJobs x = Office.of("j3 2 0 " + sorted + " 0;");
        x.sees(s[0], s[1], s[2]);
        Office.due("WHOSE by SHEET " + s[0] + " PAGE " + s[1] + " " + s[2], x.whose(), s[3]);
      }
    }
    CopierJobs x = Office.of("j1 1 0 0 0;");
    x.sees(1, 1, 0);
    Office.due("no SHEET 1", x.whose(), 1);
    x.sees(0, 2, 0);
    Office.due("no PAGE 2", x.whose(), 1);
    x.sees(0, 1, 1);
    Office.due("SHEET 0", x.whose(), 1);
    x.sees(1, 1, 1);
    Office.due("no SHEET 1, and it has", x.whose(), 0);
  }

  private static void frontNotBack() {
    CopierJobs x = Office.of("j2 1 1 0 0;j2 1 0 0 0;");
    x.sees(0, 2, 1);
    Office.due("PAGE 2 is on the BACK", x.whose(), 0);
    x.forget();
    x.sees(0, 2, 0);
    Office.due("PAGE 2 is not in FRONT", x.whose(), 3);
    x.sees(1, 2, 1);
    Office.due("PAGE 2 in FRONT of SHEET 1", x.whose(), 2);
  }

  /** 'of an unknown JOB (ended or not)' */
  private static void endedOrNot() {
    CopierJobs x = Scenes.make("ended");
    Office.due("WHOSE, all ended or broken off", x.whose(), 3);
    Office.due("LOOK, all ended or broken off", x.look(), 12);
    x.sees(1, 2, 1);
    Office.due("WHOSE", x.whose(), 1);
  }

  /** 'JOBS (bits) by which all that was SEEN is so' */
  private static void whoseOfNoneAndOfSix() {
    CopierJobs x = new CopierJobs();
    Office.due("WHOSE without JOBS", x.whose(), 0);
    x.sees(0, 1, 0);
    Office.due("WHOSE without JOBS, one SEEN", x.whose(), 0);
    x = Office.of("j1 1 0 0 0;j2 1 0 0 0;j3 1 0 0 0;j4 1 0 0 0;j5 1 0 0 0;j6 1 0 0 0;");
    Office.due("WHOSE, nothing SEEN", x.whose(), 63);
    x.sees(5, 6, 1);
    Office.due("WHOSE, the last", x.whose(), 32);
    x.forget();
    x.sees(1, 2, 0);
    Office.due("WHOSE, the first", x.whose(), 1);
    x.sees(1, 2, 1);
    Office.due("WHOSE, there and not there", x.whose(), 0);
    x.forget();
    for (int k = 1; k < 6; k++) {
      x.sees(k, k + 1, 1);
      Office.due("WHOSE, " + k + " SEEN", x.whose(), 63 & ~((1 << k) - 1));
    }
  }

  /** 'NONE (fewer than 2, none parts them)' */
  private static void lookNone() {
    Office.due("LOOK without JOBS", new CopierJobs().look(), -9);
    Office.due("LOOK of one JOB", Office.of("j9 9 0 0 0;").look(), -9);
    Office.due("LOOK of two alike", Office.of("j2 2 0 0 0;j2 2 0 0 1;").look(), -9);
    Office.due("LOOK of six alike", Office.of("j2 2 0 0 0;".repeat(6)).look(), -9);
    // One PAGE: SORTED or not, BOTH or not, its SHEETS are the same in FRONT.
    Office.due("LOOK of four alike", Office.of("j1 3 0 0 0;j1 3 0 1 0;j1 3 1 0 0;j1 3 1 1 0;").look(), -9);
    Office.due("LOOK, alike in FRONT, not on the BACK", Office.of("j1 3 0 0 0;j2 3 1 1 0;").look(), -9);
    CopierJobs x = Office.of("j1 1 0 0 0;j2 1 0 0 0;");
    Office.due("LOOK of two", x.look(), 12);
    x.sees(1, 2, 1);
    Office.due("LOOK of one that is left", x.look(), -9);
    x.sees(1, 2, 0);
    Office.due("LOOK of none that is left", x.look(), -9);
  }

  /** 'of several the least' */
  private static void lookTheLeast() {
    // SHEET 1 has PAGE 1 or 2, and 11 is less than 12; SHEET 2 parts them, too.
    Office.due("LOOK of several", Office.of("j2 2 0 1 0;j2 2 0 0 0;").look(), 11);
    Office.due("LOOK of several, the other way", Office.of("j2 2 0 0 0;j2 2 0 1 0;").look(), 11);
    Office.due("LOOK behind the last SHEET", Office.of("j1 2 0 0 0;j1 1 0 0 0;").look(), 11);
    Office.due("LOOK at a PAGE", Office.of("j3 1 1 0 0;j3 1 0 0 0;").look(), 12);
  }

  private static void lookFar() {
    // 72 SHEETS are alike, then PAGE 9 comes or nothing.
    Office.due("LOOK far, unsorted", Office.of("j9 9 0 0 0;j8 9 0 0 0;").look(), 729);
    Office.due("LOOK far, SORTED", Office.of("j9 9 0 1 0;j9 8 0 1 0;").look(), 721);
    // Up to SHEET 79 three are alike or only one has the PAGE; SHEET 80 has PAGE 9 in both that have it: two and two.
    CopierJobs x = Office.of("j9 9 0 0 0;j9 9 0 1 0;j8 9 0 0 0;j8 9 0 0 0;");
    Office.due("LOOK at the last SHEET", x.look(), 809);
    x.sees(80, 9, 1);
    Office.due("WHOSE by the last SHEET", x.whose(), 3);
    Office.due("LOOK then", x.look(), 11);
    x = Office.of("j9 9 0 0 0;j8 9 0 0 0;");
    x.sees(80, 9, 0);
    Office.due("WHOSE by SHEET 80", x.whose(), 2);
  }

  /** 'by which, it being there or not, the greater part of these is least' */
  private static void theGreaterPart() {
    // Fronts 1; 1 1; 1 1 1; 1 1 1 1: SHEET 1 parts 1 and 3, SHEET 2 parts 2 and 2.
    CopierJobs x = Office.of("j1 1 0 0 0;j1 2 0 0 0;j1 3 0 0 0;j1 4 0 0 0;");
    Office.due("LOOK, two and two", x.look(), 21);
    x.sees(2, 1, 1);
    Office.due("LOOK, one and one", x.look(), 31);
    x.forget();
    x.sees(2, 1, 0);
    Office.due("LOOK, one and one, below", x.look(), 11);
    // Five: SHEET 2 parts 2 and 3, SHEET 3 parts 3 and 2: the greater part is 3 by both.
    x = Office.of("j1 1 0 0 0;j1 2 0 0 0;j1 3 0 0 0;j1 4 0 0 0;j1 5 0 0 0;");
    Office.due("LOOK, three and two", x.look(), 21);
    // Only a part of one can be had: 3 alike and one other.
    x = Office.of("j1 1 0 0 0;j1 1 0 0 0;j1 1 0 0 0;j2 1 0 0 0;");
    Office.due("LOOK, three and one", x.look(), 12);
  }

  /** An IMAGE and undo() do not hold what was SEEN; only forget() and a text read anew change it. */
  private static void whatLeavesSeenAlone() {
    CopierJobs x = Scenes.make("half done");
    String seen = Office.seen(x);
    x.undo();
    Office.same("SEEN behind undo()", Office.seen(x), seen);
    x.back(1);
    Office.same("SEEN behind back()", Office.seen(x), seen);
    x.ticks(20);
    Office.same("SEEN behind ticks()", Office.seen(x), seen);
    x.clear();
    Office.type(x, "x");
    x.office();
    Office.same("SEEN behind a FAULT", Office.seen(x), seen);
    Office.read(x, "");
    Office.due("SEEN anew", x.count(2), 0);
  }

  private static void refused(String scene, String call, Office.Call c, int want) {
    Office.refused(call + ", " + scene, () -> Scenes.make(scene), c, want);
  }
}
