import java.util.ArrayList;
import java.util.Collections;
import java.util.List;
import java.util.Random;

/** Any calls in any order with any numbers, all 512 that an object is used for, each answer as Paper has it. */
public final class WholeTest {
  private static final int CALLS = 512;
  private static final int[] FAR = {Integer.MIN_VALUE, -1000000, -1000, -10, -9, -2, 10, 21, 81, 100, 256, 1000, 65536, Integer.MAX_VALUE};

  private final Random r;
  private final CopierJobs x = new CopierJobs();
  private final Paper p = new Paper();
  private final long seed;
  private int made = 0;
  private boolean wrong = false;

  private WholeTest(long seed) {
    this.seed = seed;
    r = new Random(seed);
  }

  public static void main(String[] args) {
    for (int seed = 0; seed < 1500; seed++) new WholeTest(seed).anyCalls();
    for (int seed = 1500; seed < 1900; seed++) new WholeTest(seed).texts();
    for (int seed = 1900; seed < 1960; seed++) new WholeTest(seed).lastTicks();
    Office.end("WholeTest");
  }

  /** Once an answer is wrong, those behind it tell nothing more. */
  private boolean goesOn() {
    return made < CALLS && !wrong;
  }

  private void due(String call, long got, long want) {
    made++;
    wrong = got != want;
    Office.due("run " + seed + ", call " + made + ": " + call, got, want);
  }

  private void anyCalls() {
    if (r.nextInt(20) > 0) tell(aText());
    // Some runs do much, some ask much, some go forth and back.
    int done = 1 + r.nextInt(6), asked = 1 + r.nextInt(4), backward = r.nextInt(4);
    while (goesOn()) {
      if (r.nextInt(150) == 0) tell(aText());
      int sort = r.nextInt(done + asked + backward);
      if (sort < done) doOne();
      else if (sort < done + asked) askOne();
      else goBack();
    }
  }

  private void texts() {
    while (goesOn()) {
      tell(spoilt(aText()));
      for (int i = r.nextInt(9); i > 0; i--) askOne();
      if (goesOn() && r.nextInt(3) == 0) due("clear()", x.clear(), p.clear());
      if (r.nextInt(3) == 0) doOne();
    }
  }

  /** 500 calls bring the TICK to its end, few are left for what may be done there. */
  private void lastTicks() {
    for (int i = 0; i < 498; i++) ticks(20);
    while (goesOn()) {
      switch (r.nextInt(5)) {
        case 0: due("undo()", x.undo(), p.undo()); break;
        case 1: due("now(0)", x.now(0), p.now(0)); break;
        default: ticks(r.nextInt(3) == 0 ? 20 : 1 + r.nextInt(20));
      }
    }
  }

  // ---- texts

  private void tell(String text) {
    for (int i = 0; i < text.length() && goesOn(); i++) type(text.charAt(i));
    if (goesOn()) due("office()", x.office(), p.office());
  }

  private String aText() {
    List<String> items = new ArrayList<>();
    int most = r.nextInt(3) == 0 ? 99 : 1 + r.nextInt(40);
    if (r.nextBoolean()) items.add("t" + r.nextInt(most + 1) + " " + r.nextInt(most + 1) + " " + r.nextInt(most + 1) + ";");
    if (r.nextBoolean()) items.add("k" + (r.nextInt(3) == 0 ? 990 + r.nextInt(10) : r.nextInt(120)) + ";");
    if (r.nextBoolean()) items.add("b" + (1 + r.nextInt(6)) + ";");
    int pages = 1 + r.nextInt(9), copies = 1 + r.nextInt(9);
    for (int j = r.nextInt(7); j > 0; j--) {
      items.add("j" + (1 + r.nextInt(pages)) + " " + (1 + r.nextInt(copies)) + " " + r.nextInt(2) + " " + r.nextInt(2) + " " + r.nextInt(3) + ";");
    }
    Collections.shuffle(items, r);
    return String.join(r.nextInt(4) == 0 ? "  " : "", items);
  }

  private String spoilt(String text) {
    String[] parts = {"", "", ";", " ", "   ", "0", "9", "99", "000", "t", "k5;", "b", "j", "j1 1 1 1 1;", "t0 0 0;", "A", "x", "\t", "-", "\u00ff"};
    String part = parts[r.nextInt(parts.length)];
    int from = r.nextInt(text.length() + 1), to = Math.min(text.length(), from + r.nextInt(3));
    switch (r.nextInt(4)) {
      case 0: return text;
      case 1: return text.substring(0, from);
      case 2: return text.substring(0, from) + " ".repeat(r.nextInt(3) == 0 ? 120 - text.length() : 0) + text.substring(from);
      default: return text.substring(0, from) + part + text.substring(to);
    }
  }

  private void type(int c) {
    due("type(" + c + ")", x.type(c), p.type(c));
  }

  // ---- numbers

  private int any(int from, int to) {
    int way = r.nextInt(16);
    return way == 0 ? FAR[r.nextInt(FAR.length)] : way == 1 ? from - 1 : way == 2 ? to + 1 : way == 3 ? to : from + r.nextInt(to - from + 1);
  }

  private int aJob() {
    return any(0, Math.max(0, p.count(1) - 1));
  }

  private int aSheet(int j) {
    int all = p.job(j, 5);
    return any(0, all > 0 ? all - 1 : 80);
  }

  // ---- calls

  private void ticks(int n) {
    if (goesOn()) due("ticks(" + n + ")", x.ticks(n), p.ticks(n));
  }

  private void doOne() {
    if (!goesOn()) return;
    int a, b, c;
    switch (r.nextInt(16)) {
      case 0: case 1: a = aJob(); due("ahead(" + a + ")", x.ahead(a), p.ahead(a)); break;
      case 2: a = r.nextInt(4) == 0 ? aJob() : any(-3, -1); due("breaks(" + a + ")", x.breaks(a), p.breaks(a)); break;
      case 3: a = any(0, 2); b = any(1, 99); due("fills(" + a + ", " + b + ")", x.fills(a, b), p.fills(a, b)); break;
      case 4: a = r.nextBoolean() ? any(1, 999) : any(1, 9); due("toner(" + a + ")", x.toner(a), p.toner(a)); break;
      case 5: case 6: a = any(0, p.count(0) - 1); due("empties(" + a + ")", x.empties(a), p.empties(a)); break;
      case 7: a = aJob(); a = aSheet(a); b = any(1, 9); c = any(0, 1); due("sees(" + a + ", " + b + ", " + c + ")", x.sees(a, b, c), p.sees(a, b, c)); break;
      case 8: a = any(0, 20); due("sees(" + a + ", 1, 0)", x.sees(a, 1, 0), p.sees(a, 1, 0)); break;
      case 9: a = any(0, 5); b = aJob(); due("mark(" + a + ", " + b + ")", x.mark(a, b), p.mark(a, b)); break;
      case 10: if (r.nextInt(4) == 0) due("forget()", x.forget(), p.forget()); else type(any(0, 255)); break;
      case 11: if (r.nextInt(4) == 0) due("clear()", x.clear(), p.clear()); else type("tkbj; 0123".charAt(r.nextInt(10))); break;
      default: ticks(any(1, 20));
    }
  }

  private void askOne() {
    if (!goesOn()) return;
    int j = aJob(), a, b;
    switch (r.nextInt(15)) {
      case 0: case 1: case 2: a = any(0, 10); due("job(" + j + ", " + a + ")", x.job(j, a), p.job(j, a)); break;
      case 3: a = aSheet(j); b = any(0, 3); due("sheet(" + j + ", " + a + ", " + b + ")", x.sheet(j, a, b), p.sheet(j, a, b)); break;
      case 4: a = any(1, 9); b = any(0, 8); due("where(" + j + ", " + a + ", " + b + ")", x.where(j, a, b), p.where(j, a, b)); break;
      case 5: a = any(0, 2); b = any(0, 1); due("tray(" + a + ", " + b + ")", x.tray(a, b), p.tray(a, b)); break;
      case 6: a = any(0, 5); due("bin(" + a + ")", x.bin(a), p.bin(a)); break;
      case 7: case 8: a = any(0, 7); due("now(" + a + ")", x.now(a), p.now(a)); break;
      case 9: a = any(0, 1); due("soon(" + a + ")", x.soon(a), p.soon(a)); break;
      case 10: odds(j, any(1, 4), any(1, 9), any(0, 1)); break;
      case 11: due("whose()", x.whose(), p.whose()); break;
      case 12: due("look()", x.look(), p.look()); break;
      case 13: a = any(0, 4); due("count(" + a + ")", x.count(a), p.count(a)); break;
      default: due("trace()", x.trace(), p.trace());
    }
  }

  private void odds(int j, int n, int page, int what) {
    due("odds(" + j + ", " + n + ", " + page + ", " + what + ")", x.odds(j, n, page, what), p.odds(j, n, page, what));
  }

  private void goBack() {
    if (!goesOn()) return;
    int a = any(0, 1);
    switch (r.nextInt(6)) {
      case 0: due("keep(" + a + ")", x.keep(a), p.keep(a)); break;
      case 1: due("back(" + a + ")", x.back(a), p.back(a)); break;
      default: due("undo()", x.undo(), p.undo());
    }
  }
}
