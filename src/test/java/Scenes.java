/** Offices in states that differ as far as they can: each name is made again and again in the same state. */
final class Scenes {
  static final String[] NAMES = {"fresh", "half done", "standing", "full", "ended"};

  private Scenes() { }

  static CopierJobs make(String name) {
    switch (name) {
      case "half done": return halfDone();
      case "standing": return standing();
      case "full": return full();
      case "ended": return ended();
      default: return new CopierJobs();
    }
  }

  /** The same, with a text that is not read yet. */
  static CopierJobs typed(String name, String text) {
    CopierJobs x = make(name);
    x.clear();
    Office.type(x, text);
    return x;
  }

  /** JOBS 1, 0, 2 in THE QUEUE, a SHEET of JOB 1 HALF done, IMAGE 1 kept, three known. */
  private static CopierJobs halfDone() {
    CopierJobs x = Office.of("t9 1 98;k998;b2;j3 2 1 1 0;j4 2 1 0 1;j9 1 0 1 2;");
    x.ticks(2);
    x.keep(1);
    x.ahead(1);
    x.ticks(1);
    x.sees(0, 1, 1);
    x.sees(3, 2, 0);
    x.mark(3, 0);
    Office.type(x, "k7;b3;");
    return x;
  }

  /** The first JOB has no paper; IMAGE 0 kept; text with a fault. */
  private static CopierJobs standing() {
    CopierJobs x = Office.of("t3 20 0;k9;j5 1 0 0 0;j2 2 1 1 1;");
    x.keep(0);
    x.ticks(20);
    x.mark(5, 1);
    x.sees(80, 9, 0);
    Office.type(x, "k7 x");
    return x;
  }

  /** Trays, toner, THE TEXT, SEEN, what may be UNDONE, the only BIN: nothing more fits. */
  private static CopierJobs full() {
    CopierJobs x = Office.of("t99 99 99;k999;b1;j9 9 0 0 0;j2 2 1 0 1;");
    x.ticks(20);
    x.ticks(20);
    x.fills(0, 99);
    x.toner(999);
    x.keep(0);
    for (int i = 0; i < 8; i++) x.ticks(1);
    x.keep(1);
    for (int i = 0; i < 6; i++) x.sees(i, 1, i < 4 ? 1 : 0);
    for (int kind = 0; kind < 6; kind++) x.mark(kind, 1);
    Office.type(x, "k7;" + " ".repeat(117));
    return x;
  }

  /** No JOB is in THE QUEUE: one ended, one was broken off. */
  private static CopierJobs ended() {
    CopierJobs x = Office.of("t2 0 99;b6;j2 1 0 1 0;j1 1 0 0 1;");
    x.ticks(3);
    x.breaks(1);
    x.keep(0);
    x.empties(0);
    return x;
  }
}
