/** What the tests share: offices made of texts, and answers that are due. */
final class Office {
  private static int asked = 0;
  private static int wrong = 0;

  /** A test takes seconds. A call that does not end must be a test that fails, not one that waits for ever. */
  private static final long LONGEST = 300_000;

  static {
    Thread watch = new Thread(Office::failLate);
    watch.setDaemon(true);
    watch.start();
  }

  private Office() { }

  private static void failLate() {
    try {
      Thread.sleep(LONGEST);
    } catch (InterruptedException e) {
      return;
    }
    System.out.println("a call does not end");
    System.out.flush();
    Runtime.getRuntime().halt(1);
  }

  static CopierJobs of(String text) {
    CopierJobs x = new CopierJobs();
    int items = read(x, text);
    if (items < 0) due("office of '" + text + "'", items, 0);
    return x;
  }

  static int read(CopierJobs x, String text) {
    x.clear();
    type(x, text);
    return x.office();
  }

  static void type(CopierJobs x, String text) {
    for (int i = 0; i < text.length(); i++) x.type(text.charAt(i));
  }

  static void due(String call, long got, long want) {
    asked++;
    if (got != want) {
      wrong++;
      System.out.println(call + " answered " + got + ", due is " + want);
    }
  }

  static void same(String call, String got, String want) {
    asked++;
    if (!got.equals(want)) {
      wrong++;
      System.out.println(call + "\n  is  " + got + "\n  due " + want);
    }
  }

  /** All that the face tells, as one text; it changes nothing. */
  static String all(CopierJobs x) {
    return done(x) + seen(x) + " text " + x.count(4) + " trace " + x.trace();
  }

  static String seen(CopierJobs x) {
    return " seen " + x.count(2) + " " + x.whose() + " " + x.look();
  }

  /** What an image keeps and undo() brings back, but for how many may be undone. */
  static String moving(CopierJobs x) {
    StringBuilder s = new StringBuilder("now");
    for (int what = 0; what <= 7; what++) s.append(' ').append(x.now(what));
    for (int j = 0; j < x.count(1); j++) {
      s.append(" job").append(j);
      for (int what = 0; what <= 10; what++) s.append(' ').append(x.job(j, what));
    }
    s.append(" trays");
    for (int t = 0; t < 3; t++) s.append(' ').append(x.tray(t, 0)).append(' ').append(x.tray(t, 1));
    s.append(" bins");
    for (int b = 0; b < x.count(0); b++) s.append(' ').append(x.bin(b));
    return s.append(" soon ").append(x.soon(0)).append(' ').append(x.soon(1)).toString();
  }

  static String done(CopierJobs x) {
    return moving(x) + " known " + x.count(3);
  }

  /** An office that can be made again and again, each time in the same state. */
  interface Scene {
    CopierJobs make();
  }

  interface Call {
    int on(CopierJobs x);
  }

  /** A call that is refused: its answer, and that nothing has changed by it, what can't be seen at once too. */
  static void refused(String call, Scene scene, Call c, int want) {
    due(call, c.on(scene.make()), want);
    same("all behind " + call, whole(scene, c), whole(scene, x -> 0));
  }

  /** All that an object holds. What is asked changes it, so that each part is asked of an object of its own. */
  static String whole(Scene scene, Call c) {
    Scene then = () -> behind(scene, c);
    return all(then.make()) + "\n undo" + undone(then) + "\n image 0" + image(then, 0) + "\n image 1" + image(then, 1)
        + "\n text" + told(then.make()) + "\n forget" + forgotten(then.make());
  }

  static CopierJobs behind(Scene scene, Call c) {
    CopierJobs x = scene.make();
    c.on(x);
    return x;
  }

  /** As moving(), in fewer calls: an object is used for 512 at most. */
  static String brief(CopierJobs x) {
    StringBuilder s = new StringBuilder();
    for (int what = 0; what <= 5; what++) s.append(' ').append(x.now(what));
    for (int j = 0; j < x.count(1); j++) {
      s.append(" job").append(j);
      for (int what = 6; what <= 8; what++) s.append(' ').append(x.job(j, what));
    }
    for (int t = 0; t < 3; t++) s.append(" tray ").append(x.tray(t, 0));
    for (int b = 0; b < x.count(0); b++) s.append(" bin ").append(x.bin(b));
    return s.toString();
  }

  /** How it is behind one undo(), two, up to eleven: each of an object of its own, since 512 calls are all. */
  static String undone(Scene scene) {
    StringBuilder s = new StringBuilder();
    for (int times = 1; times <= 11; times++) {
      CopierJobs x = scene.make();
      int answer = 0;
      for (int i = 0; i < times; i++) answer = x.undo();
      s.append(' ').append(answer).append(':').append(brief(x));
    }
    return s.toString();
  }

  private static String image(Scene scene, int image) {
    CopierJobs x = scene.make();
    return " " + x.back(image) + ": " + brief(x) + undone(() -> behind(scene, y -> y.back(image)));
  }

  private static String told(CopierJobs x) {
    return " " + x.office() + ": " + all(x);
  }

  private static String forgotten(CopierJobs x) {
    return " " + x.forget() + " clear " + x.clear() + ": " + all(x);
  }

  static void end(String name) {
    System.out.println(name + ": " + asked + " answers, " + wrong + " wrong");
    if (asked == 0 || wrong != 0) System.exit(1);
  }
}
