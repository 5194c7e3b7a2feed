/** What the tests share: offices made of texts, and answers that are due. */
final class Office {
  private static int asked = 0;
  private static int wrong = 0;

  private Office() { }

  static CopierJobs of(String text) {
    CopierJobs x = new CopierJobs();
    int items = read(x, text);
    if (items < 0) due("office of '" + text + "'", items, 0);
    return x;
  }

  static int read(CopierJobs x, String text) {
    x.clear();
    type(x, text);
    return x.office();
  }

  static void type(CopierJobs x, String text) {
    for (int i = 0; i < text.length(); i++) x.type(text.charAt(i));
  }

  static void due(String call, long got, long want) {
    asked++;
    if (got != want) {
      wrong++;
      System.out.println(call + " answered " + got + ", due is " + want);
    }
  }

  static void same(String call, String got, String want) {
    asked++;
    if (!got.equals(want)) {
      wrong++;
      System.out.println(call + "\n  is  " + got + "\n  due " + want);
    }
  }

  /** All that the face tells, as one text; it changes nothing. */
  static String all(CopierJobs x) {
    return done(x) + seen(x) + " text " + x.count(4) + " trace " + x.trace();
  }

  static String seen(CopierJobs x) {
    return " seen " + x.count(2) + " " + x.whose() + " " + x.look();
  }

  /** What an image keeps and undo() brings back, but for how many may be undone. */
  static String moving(CopierJobs x) {
    StringBuilder s = new StringBuilder("now");
    for (int what = 0; what <= 7; what++) s.append(' ').append(x.now(what));
    for (int j = 0; j < x.count(1); j++) {
      s.append(" job").append(j);
      for (int what = 0; what <= 10; what++) s.append(' ').append(x.job(j, what));
    }
    s.append(" trays");
    for (int t = 0; t < 3; t++) s.append(' ').append(x.tray(t, 0)).append(' ').append(x.tray(t, 1));
    s.append(" bins");
    for (int b = 0; b < x.count(0); b++) s.append(' ').append(x.bin(b));
    return s.append(" soon ").append(x.soon(0)).append(' ').append(x.soon(1)).toString();
  }

  static String done(CopierJobs x) {
    return moving(x) + " known " + x.count(3);
  }

  static void end(String name) {
    System.out.println(name + ": " + asked + " answers, " + wrong + " wrong");
    if (asked == 0 || wrong != 0) System.exit(1);
  }
}
