/** Every boundary that the document names for THE TEXT, and promises 1 to 4. */
public final class TextBoundsTest {
  private static final String SIX = "j1 1 0 0 0;".repeat(6);

  public static void main(String[] args) {
    atFirst();
    sheetsOfTraysAre0To99();
    tonerIs0To999();
    binsAre1To6();
    numbersOfAJob();
    sixJobsAtMost();
    onceAtMost();
    textIs120BytesAtMost();
    everyByteInEveryPlace();
    blanksBetweenTokens();
    lettersThatBeginNoItem();
    numberAbove999();
    zeroAheadOfOthers();
    endsTooEarly();
    theFirstFault();
    firstAndLastFault();
    emptyText();
    faultChangesNothing();
    readAnew();
    bytesAre0To255();
    fullAndClear();
    Office.end("TextBoundsTest");
  }

  /** '20 at first', '200 at first', '4 at first', 'no JOBS', 'BINS have none, TICK 0'. */
  private static void atFirst() {
    CopierJobs x = new CopierJobs();
    for (int t = 0; t < 3; t++) Office.due("SHEETS at first", x.tray(t, 0), 20);
    Office.due("TONER at first", x.now(1), 200);
    Office.due("BINS at first", x.count(0), 4);
    for (int b = 0; b < 4; b++) Office.due("a BIN at first", x.bin(b), 0);
    Office.due("no fifth BIN at first", x.bin(4), -1);
    Office.due("JOBS at first", x.count(1), 0);
    Office.due("THE QUEUE at first", x.now(5), 0);
    Office.due("TICK at first", x.now(0), 0);
    Office.due("SEEN at first", x.count(2), 0);
    Office.due("UNDONE at first", x.count(3), 0);
    Office.due("THE TEXT at first", x.count(4), 0);
    Office.due("THE TRACE at first", x.trace(), 0);
    Office.due("IMAGE 0 at first", x.back(0), -2);
    Office.due("IMAGE 1 at first", x.back(1), -2);
  }

  /** 'each with SHEETS (0 .. 99)' */
  private static void sheetsOfTraysAre0To99() {
    for (int t = 0; t < 3; t++) {
      for (int n : new int[] {0, 1, 9, 10, 98, 99}) {
        CopierJobs x = Office.of(trays(t, n));
        for (int other = 0; other < 3; other++) Office.due("tray " + other, x.tray(other, 0), other == t ? n : 5);
      }
      for (int n : new int[] {100, 101, 999}) reads(trays(t, n), -10 - (1 + 2 * t));
    }
  }

  private static String trays(int t, int n) {
    return "t" + (t == 0 ? n : 5) + " " + (t == 1 ? n : 5) + " " + (t == 2 ? n : 5) + ";";
  }

  /** 'TONER (0 .. 999)' */
  private static void tonerIs0To999() {
    for (int n : new int[] {0, 1, 998, 999}) Office.due("TONER told " + n, Office.of("k" + n + ";").now(1), n);
    reads("k1000;", -11);
    reads("k9990;", -11);
  }

  /** 'BINS 0 .. as many as are told less 1 (1 .. 6)' */
  private static void binsAre1To6() {
    for (int n = 1; n <= 6; n++) {
      CopierJobs x = Office.of("b" + n + ";");
      Office.due("BINS told " + n, x.count(0), n);
      Office.due("the last of " + n + " BINS", x.bin(n - 1), 0);
      Office.due("behind the last of " + n + " BINS", x.bin(n), -1);
      Office.due("ahead of the first of " + n + " BINS", x.bin(-1), -1);
    }
    reads("b0;", -11);
    reads("b7;", -11);
    reads("b10;", -11);
  }

  /** 'PAGES (1 .. 9), COPIES (1 .. 9), BOTH (1; 0), SORTED (1, 0), TRAY' */
  private static void numbersOfAJob() {
    int[] least = {1, 1, 0, 0, 0}, most = {9, 9, 1, 1, 2};
    for (int place = 0; place < 5; place++) {
      for (int n = 0; n <= 12; n++) {
        int[] told = {3, 3, 1, 1, 1};
        told[place] = n;
        String text = "j" + told[0] + " " + told[1] + " " + told[2] + " " + told[3] + " " + told[4] + ";";
        boolean good = n >= least[place] && n <= most[place];
        reads(text, good ? 1 : -10 - (1 + 2 * place));
        if (!good) continue;
        CopierJobs x = Office.of(text);
        for (int what = 0; what < 5; what++) Office.due("job(0, " + what + ") of " + text, x.job(0, what), told[what]);
      }
    }
  }

  /** 'JOBS 0 .. (6 at most)', 'a seventh JOB' */
  private static void sixJobsAtMost() {
    CopierJobs x = Office.of("j1 1 0 0 0;".repeat(5) + "j7 1 0 0 0;");
    Office.due("JOBS", x.count(1), 6);
    Office.due("the sixth JOB", x.job(5, 0), 7);
    Office.due("no seventh JOB", x.job(6, 0), -1);
    reads(SIX, 6);
    reads(SIX + "j1 1 0 0 0;", -10 - 66);
    reads(SIX + "   j", -10 - 69);
    reads("b2;" + SIX + "t1 1 1;j", -10 - 76);
  }

  /** 'once at most', 't, k, b again' */
  private static void onceAtMost() {
    String[] items = {"t1 2 3;", "k4;", "b5;"};
    for (String first : items) {
      for (String second : items) {
        if (first.equals(second)) reads(first + second, -10 - first.length());
        else reads(first + second, 2);
        String three = first + second + " " + first;
        reads(three, first.equals(second) ? -10 - first.length() : -10 - (first + second).length() - 1);
      }
      reads(first + "j1 1 0 0 0;" + first.charAt(0), -10 - first.length() - 11);
    }
    reads("j1 1 0 0 0;j1 1 0 0 0;", 2);
    // Once a text, not once for ever.
    CopierJobs x = Office.of("t1 2 3;k4;b5;");
    Office.due("t, k, b in the next text", Office.read(x, "t3 2 1;k5;b6;"), 3);
  }

  /** 'a text (120 bytes at most)' */
  private static void textIs120BytesAtMost() {
    String text = "t99 99 99;k999;b6;" + SIX;
    String longest = " ".repeat(120 - text.length()) + text;
    CopierJobs x = new CopierJobs();
    for (int i = 0; i < 120; i++) Office.due("byte " + i, x.type(longest.charAt(i)), i + 1);
    Office.due("byte 120", x.type(' '), -3);
    Office.due("office() of 120 bytes", x.office(), 9);
    Office.due("the last JOB of it", x.job(5, 0), 1);
    Office.due("THE TEXT is empty then", x.count(4), 0);
    Office.due("a byte then", x.type('k'), 1);
  }

  /** 'letters a .. z side by side, NUMBERS and ;', 'a byte that begins none' */
  private static void everyByteInEveryPlace() {
    for (int c = 0; c < 256; c++) {
      boolean letter = c >= 'a' && c <= 'z', figure = c >= '0' && c <= '9';
      char sign = (char) c;
      reads(sign + "k5;", c == ' ' ? 1 : -10);
      reads("k" + sign + "5;", c == ' ' || figure && c != '0' ? 1 : letter ? -10 : -11);
      reads("k5" + sign + ";", c == ' ' || figure ? 1 : c == ';' ? -13 : -12);
      boolean begins = c == 't' || c == 'b' || c == 'j';
      reads("k5;" + sign, c == ' ' ? 1 : begins ? -14 : -13);
    }
  }

  /** 'blanks (32) between TOKENS' */
  private static void blanksBetweenTokens() {
    reads("t1 2 3;k4;b5;j6 7 1 0 2;", 4);
    reads("  t  1  2  3  ;  k  4  ;  b  5  ;  j  6  7  1  0  2  ;  ", 4);
    reads("t12 3;", -15);
    reads("t1 23;", -15);
    reads("k1 2;", -13);
    reads("b1 0;", -13);
    reads("j11 0 0 0;", -11);
    CopierJobs x = Office.of("t0 10 99;");
    Office.due("tray 0", x.tray(0, 0), 0);
    Office.due("tray 1", x.tray(1, 0), 10);
    Office.due("tray 2", x.tray(2, 0), 99);
  }

  /** 'letters that begin no ITEM' */
  private static void lettersThatBeginNoItem() {
    for (char c = 'a'; c <= 'z'; c++) {
      boolean begins = c == 't' || c == 'k' || c == 'b' || c == 'j';
      reads("" + c, begins ? -11 : -10);
      reads("b2;" + c, c == 'b' || !begins ? -13 : -14);
      reads("t" + c + "1 2 3;", -10);
      reads(c + "t1 2 3;", -10);
      // Letters in a NUMBER's place, and in the place of ; .
      reads("t " + c + " 2 3;", -12);
      reads("t1 2 3" + c + ";", -16);
    }
  }

  /** 'a NUMBER above 999', in each place of each ITEM */
  private static void numberAbove999() {
    for (String n : new String[] {"1000", "9999", "2147483648", "4294967301", "18446744073709551617", "9".repeat(60)}) {
      reads("k" + n + ";", -11);
      reads("t" + n + " 2 3;", -11);
      reads("t1 " + n + " 3;", -13);
      reads("t1 2 " + n + ";", -15);
      reads("b" + n + ";", -11);
      for (int place = 0; place < 5; place++) {
        String[] told = {"1", "1", "1", "1", "1"};
        told[place] = n;
        reads("j" + String.join(" ", told) + ";", -11 - 2 * place);
      }
      reads(n, -10);
      reads("k5 " + n, -13);
    }
  }

  /** 'or with a 0 ahead of others' */
  private static void zeroAheadOfOthers() {
    reads("k0;", 1);
    reads("k10;", 1);
    reads("k100;", 1);
    for (String n : new String[] {"00", "01", "09", "000", "0000", "007", "0999"}) {
      reads("k" + n + ";", -11);
      reads("k " + n, -12);
      reads("t0 0 " + n + ";", -15);
      reads("b" + n + ";", -11);
      reads("j1 1 0 0 " + n + ";", -19);
    }
  }

  /** 'the text's length, if it ends too early' */
  private static void endsTooEarly() {
    String text = "t1 2 3;k4;b5;j6 7 1 0 2;";
    int items = 0;
    for (int n = 0; n <= text.length(); n++) {
      String early = text.substring(0, n);
      if (early.endsWith(";")) items++;
      boolean whole = n == 0 || early.endsWith(";");
      reads(early, whole ? items : -10 - n);
      reads(early + " ", whole ? items : -10 - n - 1);
      reads(early + " ".repeat(120 - n), whole ? items : -130);
    }
  }

  /** 'the first TOKEN that can't stand there' */
  private static void theFirstFault() {
    reads("k5 7$;", -13);
    reads("k$ 1000;", -11);
    reads("k1000 $;", -11);
    reads("k00 1000;", -11);
    reads("x 00;", -10);
    reads("b7 x;", -11);
    reads("t1 2 k 3", -15);
    reads("t1 2 100", -15);
    reads("k5;k", -13);
    reads("k1;b1;t1;", -18);
    reads("j1 1 0 0 0;j1 1 0 0 9;x", -30);
  }

  private static void firstAndLastFault() {
    reads("$", -10);
    reads(" ".repeat(119) + "$", -129);
    reads(" ".repeat(119) + "x", -129);
    reads(" ".repeat(119) + "k", -130);
    reads(" ".repeat(117) + "k5;", 1);
  }

  private static void emptyText() {
    CopierJobs x = Office.of("t1 2 3;k4;b5;j6 7 1 0 2;");
    Office.due("office() of no bytes", x.office(), 0);
    Office.same("all then", Office.all(x), Office.all(new CopierJobs()));
    reads(" ", 0);
    reads(" ".repeat(120), 0);
  }

  /** '-10 less FAULT: nothing changes.' */
  private static void faultChangesNothing() {
    for (String text : new String[] {"x", "t1 1 1;k1;b5;j1 1 1 1 1;x", "t1 2 100;", "k1;k", SIX + "j", "b7;", "k01;", "j1 1"}) {
      int fault = Office.read(new CopierJobs(), text);
      for (String scene : Scenes.NAMES) {
        Office.refused("office() of '" + text + "', " + scene, () -> Scenes.typed(scene, text), CopierJobs::office, fault);
      }
    }
    // The next text is read as if there had been none ahead of it.
    CopierJobs x = new CopierJobs();
    Office.due("office() with a fault", Office.read(x, "t1 1 1;k1;b5;j1 1 1 1 1;x"), -34);
    Office.due("office() behind it", Office.read(x, "j2 2 0 0 0;"), 1);
    Office.same("all behind it", Office.all(x), Office.all(Office.of("j2 2 0 0 0;")));
  }

  /** '(Read anew: as told, nothing SEEN or to be UNDONE, IMAGES are gone.)' */
  private static void readAnew() {
    String[] texts = {"", "k7;", "b6;", "t0 0 0;", "j2 1 1 0 0;j9 9 0 1 2;"};
    for (String scene : Scenes.NAMES) {
      for (String text : texts) {
        CopierJobs x = Scenes.make(scene), fresh = Office.of(text);
        long traced = x.trace();
        Office.read(x, text);
        Office.same("NOW anew, " + scene, Office.done(x), Office.done(fresh));
        Office.same("SEEN anew, " + scene, Office.seen(x), Office.seen(fresh));
        Office.due("IMAGE 0 is gone, " + scene, x.back(0), -2);
        Office.due("IMAGE 1 is gone, " + scene, x.back(1), -2);
        Office.due("nothing to be UNDONE, " + scene, x.undo(), -2);
        Office.due("THE TRACE goes on, " + scene, x.trace(), traced);
      }
    }
  }

  /** 'A byte (0 .. 255)', 'BAD; FULL' */
  private static void bytesAre0To255() {
    CopierJobs x = new CopierJobs();
    for (int c = 0; c < 120; c++) Office.due("type(" + c + ")", x.type(c), c + 1);
    x = new CopierJobs();
    for (int c = 136; c < 256; c++) Office.due("type(" + c + ")", x.type(c), c - 135);
    for (String scene : Scenes.NAMES) {
      for (int c : new int[] {-1, 256, 257, -256, Integer.MIN_VALUE, Integer.MAX_VALUE}) {
        Office.refused("type(" + c + "), " + scene, () -> Scenes.make(scene), y -> y.type(c), -1);
      }
    }
    // 32 and 32 less 256 are not the same byte: no wrap-around.
    Office.refused("type(32 + 256)", () -> Scenes.make("fresh"), y -> y.type(32 + 256), -1);
  }

  private static void fullAndClear() {
    Office.Scene full = () -> Scenes.typed("half done", "k5;" + "x".repeat(117));
    for (int c : new int[] {0, ' ', 'k', 255}) Office.refused("type(" + c + "), full", full, x -> x.type(c), -3);
    for (int c : new int[] {-1, 256}) Office.refused("type(" + c + "), full and BAD", full, x -> x.type(c), -1);
    CopierJobs x = full.make();
    String ahead = Office.done(x) + Office.seen(x);
    Office.due("clear() of a full text", x.clear(), 120);
    Office.same("all but THE TEXT", Office.done(x) + Office.seen(x), ahead);
    Office.due("THE TEXT", x.count(4), 0);
    Office.due("clear() of an empty text", x.clear(), 0);
    for (int i = 1; i <= 120; i++) Office.due("byte " + i + " then", x.type('0'), i);
    Office.due("byte 121 then", x.type('0'), -3);
    x = new CopierJobs();
    x.type('k');
    Office.due("clear() of one byte", x.clear(), 1);
  }

  private static void reads(String text, int want) {
    CopierJobs x = new CopierJobs();
    Office.type(x, text);
    Office.due("office() of '" + text + "'", x.office(), want);
    Office.due("count(4) behind '" + text + "'", x.count(4), want < 0 ? text.length() : 0);
  }
}
