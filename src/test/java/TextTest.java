/** Promises 1 to 4: a new object, type, clear, office. */
public final class TextTest {
  public static void main(String[] args) {
    aNewObject();
    typeAndClear();
    officesThatStand();
    faults();
    bytesOfAnEarlierText();
    nothingChangesByAFault();
    readAnew();
    Office.end("TextTest");
  }

  private static void aNewObject() {
    CopierJobs x = new CopierJobs();
    Office.same("new", Office.all(x), "now 0 200 -9 0 0 0 0 0 trays 20 0 20 0 20 0 bins 0 0 0 0 soon 0 0"
        + " known 0 seen 0 0 -9 text 0 trace 0");
    Office.due("job(0, 0) of none", x.job(0, 0), -1);
    Office.due("back(0) of none", x.back(0), -2);
  }

  private static void typeAndClear() {
    CopierJobs x = new CopierJobs();
    Office.due("type(-1)", x.type(-1), -1);
    Office.due("type(256)", x.type(256), -1);
    for (int i = 1; i <= 120; i++) Office.due("type, byte " + i, x.type(i % 2 == 0 ? 0 : 255), i);
    Office.due("type, byte 121", x.type(32), -3);
    Office.due("type(256), full", x.type(256), -1);
    Office.due("count(4), full", x.count(4), 120);
    Office.due("clear()", x.clear(), 120);
    Office.due("clear() again", x.clear(), 0);
    Office.due("type(0)", x.type(0), 1);
  }

  private static void officesThatStand() {
    reads("", 0);
    reads("   ", 0);
    reads("t0 0 0;", 1);
    reads("t 99 99 99 ;", 1);
    reads("  b6;k999;t1 2 3;", 3);
    reads("k0;", 1);
    reads("b1;", 1);
    reads("j1 1 0 0 0;j9 9 1 1 2;", 2);
    reads("j1 1 0 0 0;j1 1 0 0 0;j1 1 0 0 0;j1 1 0 0 0;j1 1 0 0 0;j1 1 0 0 0;", 6);
    reads("j 1 1 0 0 0; t 1 1 1; j 1 1 0 0 0; k 5; b 2;", 5);
    CopierJobs x = Office.of("t7 8 9;");
    Office.due("toner untold", x.now(1), 200);
    Office.due("bins untold", x.count(0), 4);
    Office.due("tray(2, 0) told", x.tray(2, 0), 9);
    Office.due("text then", x.count(4), 0);
  }

  private static void faults() {
    // letters that begin no item, or that are told again
    reads("x;", -10);
    reads(" tt 1 2 3;", -11);
    reads("kk5;", -10);
    reads("ta1 2 3;", -10);
    reads("kz5;", -10);
    reads("t1 2 3;k1;t", -20);
    reads("k1;b1;k", -16);
    reads("b1; b1;", -14);
    reads("j1 1 0 0 0;j1 1 0 0 0;j1 1 0 0 0;j1 1 0 0 0;j1 1 0 0 0;j1 1 0 0 0; j1 1 0 0 0;", -77);
    reads(";", -10);
    reads("5;", -10);
    reads("k5;;", -13);
    // what can't stand inside an item
    reads("t1 2;", -14);
    reads("t1 2 3 4;", -17);
    reads("t1 k 3;", -13);
    reads("k;", -11);
    reads("k 5 6;", -14);
    reads("k5k5;", -12);
    reads("j1 1 0 0;", -18);
    reads("j1 1 0 0 0 0;", -21);
    // numbers beyond what they may be
    reads("t100 1 1;", -11);
    reads("t1 1 100;", -15);
    reads("k1000;", -11);
    reads("b0;", -11);
    reads("b7;", -11);
    reads("j0 1 0 0 0;", -11);
    reads("j10 1 0 0 0;", -11);
    reads("j1 0 0 0 0;", -13);
    reads("j1 10 0 0 0;", -13);
    reads("j1 1 2 0 0;", -15);
    reads("j1 1 0 2 0;", -17);
    reads("j1 1 0 0 3;", -19);
    // numbers that are none
    reads("k00;", -11);
    reads("k 05;", -12);
    reads("k99999999999999999999;", -11);
    reads("k4294967297;", -11);
    // bytes that begin none
    reads("k5$;", -12);
    reads("K5;", -10);
    reads("k\t5;", -11);
    reads("k-5;", -11);
    reads("k5;" + (char) 0, -13);
    reads("k5;" + (char) 255, -13);
    reads("`5;", -10);
    reads("{5;", -10);
    reads("k:", -11);
    reads("k/", -11);
    // the first fault of several
    reads("k1 2 $", -13);
    reads("b7 01", -11);
    // it ends too early
    reads("t", -11);
    reads("t  ", -13);
    reads("t1 2 3", -16);
    reads("k5;b3 ", -16);
    reads("j1 1 0 0", -18);
    reads("k 5" + " ".repeat(117), -130);
  }

  private static void bytesOfAnEarlierText() {
    shortBehindLong("kk5;", "k", -11);
    shortBehindLong("k555;", "k5", -12);
    shortBehindLong("k5   ;", "k5", -12);
    shortBehindLong("k5;b7;", "k5;", 1);
  }

  private static void shortBehindLong(String longer, String shorter, int want) {
    CopierJobs x = new CopierJobs();
    Office.type(x, longer);
    Office.due("office() of '" + shorter + "' behind '" + longer + "'", Office.read(x, shorter), want);
  }

  private static void nothingChangesByAFault() {
    CopierJobs x = Office.of("t5 5 5;k50;b2;j2 2 0 1 0;");
    x.ticks(3);
    x.keep(1);
    x.sees(0, 1, 1);
    x.mark(3, 0);
    Office.type(x, "t1 1 1;k1;b5;j1 1 1 1 1;x");
    String ahead = Office.all(x);
    Office.due("office() with a fault", x.office(), -34);
    Office.same("all behind a fault", Office.all(x), ahead);
    Office.due("back(1) behind a fault", x.back(1), 3);
  }

  private static void readAnew() {
    CopierJobs x = Office.of("t5 5 5;k50;b2;j2 2 0 1 0;j1 1 0 0 0;");
    x.ticks(3);
    x.keep(0);
    x.sees(0, 1, 1);
    x.mark(0, 0);
    Office.due("office() anew", Office.read(x, "j3 1 0 0 2;"), 1);
    Office.same("all anew", Office.all(x), "now 0 200 0 0 0 1 0 0 job0 3 1 0 0 2 3 0 0 -9 3 3"
        + " trays 20 0 20 0 20 0 bins 0 0 0 0 soon 3 1 known 0 seen 0 1 -9 text 0 trace 1");
    Office.due("back(0) anew", x.back(0), -2);
    Office.due("undo() anew", x.undo(), -2);
    x = Office.of("j2 1 1 0 0;");
    x.ticks(1);
    Office.due("office(), a sheet half done", Office.read(x, "j2 1 1 0 0;"), 1);
    Office.due("nothing half done anew", x.now(4), 0);
    Office.due("office() of nothing", x.office(), 0);
    Office.due("count(1) then", x.count(1), 0);
  }

  private static void reads(String text, int want) {
    CopierJobs x = new CopierJobs();
    Office.due("office() of '" + text + "'", Office.read(x, text), want);
    Office.due("count(4) behind '" + text + "'", x.count(4), want < 0 ? text.length() : 0);
  }
}
