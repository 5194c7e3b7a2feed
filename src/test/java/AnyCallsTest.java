import java.util.ArrayList;
import java.util.List;
import java.util.Random;

/** Any calls in any order, wrong numbers too: none fails, and what is refused or only asked changes nothing. */
public final class AnyCallsTest {
  private static final int[] FAR = {Integer.MIN_VALUE, -1000, -10, 10, 21, 81, 100, 256, 1000, Integer.MAX_VALUE};
  private static final int FIRST_CHANGE = 14, MARK = 15, FIRST_DONE = 21, LAST_DONE = 26;

  private final Random r;
  private final CopierJobs x = new CopierJobs();
  private final List<String> known = new ArrayList<>();
  private final String[] kept = new String[2];
  private final List<List<String>> keptKnown = new ArrayList<>(List.of(List.of(), List.of()));

  private AnyCallsTest(long seed) {
    r = new Random(seed);
  }

  public static void main(String[] args) {
    for (int seed = 0; seed < 150; seed++) new AnyCallsTest(seed).run();
    Office.end("AnyCallsTest");
  }

  private void run() {
    for (int i = 0; i < 200; i++) {
      if (r.nextInt(40) == 0 || i == 0) tell();
      else one(r.nextInt(28));
    }
  }

  private void tell() {
    StringBuilder s = new StringBuilder();
    if (r.nextBoolean()) s.append("t" + r.nextInt(100) + " " + r.nextInt(30) + " " + r.nextInt(30) + ";");
    if (r.nextBoolean()) s.append("k" + r.nextInt(200) + ";");
    if (r.nextBoolean()) s.append("b" + (1 + r.nextInt(6)) + ";");
    for (int j = r.nextInt(7); j > 0; j--) {
      s.append("j" + (1 + r.nextInt(9)) + " " + (1 + r.nextInt(9)) + " " + r.nextInt(2) + " " + r.nextInt(2) + " " + r.nextInt(3) + ";");
    }
    if (r.nextInt(4) == 0 && s.length() > 0) s.setCharAt(r.nextInt(s.length()), (char) r.nextInt(256));
    x.clear();
    Office.type(x, s.toString());
    String ahead = Office.all(x);
    if (x.office() < 0) Office.same("office() with a fault", Office.all(x), ahead);
    else forgetAll();
  }

  private void forgetAll() {
    known.clear();
    kept[0] = null;
    kept[1] = null;
    Office.due("seen or undone anew", x.count(2) + x.count(3) + x.now(0), 0);
  }

  /** A number near what the call takes, or a far one. */
  private int any(int from, int to) {
    return r.nextInt(12) == 0 ? FAR[r.nextInt(FAR.length)] : from - 1 + r.nextInt(to - from + 3);
  }

  private void one(int call) {
    String ahead = Office.all(x), moving = Office.moving(x);
    int answer = call < FIRST_CHANGE ? ask(call) : call < FIRST_DONE ? change(call) : done(call);
    String name = "call " + call + " answering " + answer;
    boolean refused = answer == CopierJobs.NO || call != MARK && (answer == CopierJobs.BAD || answer == CopierJobs.STATE || answer == CopierJobs.FULL);
    if (call < FIRST_CHANGE || refused) Office.same(name, Office.all(x), ahead);
    if (call >= FIRST_DONE && call <= LAST_DONE && !refused) {
      known.add(moving);
      if (known.size() > 10) known.remove(0);
    }
    Office.due("how many may be undone behind " + name, x.count(3), known.size());
    sane(name);
  }

  private int ask(int call) {
    switch (call) {
      case 0: return x.job(any(0, 5), any(0, 10));
      case 1: return x.sheet(any(0, 5), any(0, 80), any(0, 3));
      case 2: return x.where(any(0, 5), any(1, 9), any(0, 8));
      case 3: return x.tray(any(0, 2), any(0, 1));
      case 4: return x.bin(any(0, 5));
      case 5: return x.now(any(0, 7));
      case 6: return x.soon(any(0, 1));
      case 7: return x.odds(any(0, 5), any(1, 4), any(1, 9), any(0, 1));
      case 8: return x.whose();
      case 9: return x.look();
      case 10: return x.count(any(0, 4));
      case 11: return (int) x.trace();
      case 12: return x.type(256 + r.nextInt(9));
      default: return x.sees(81 + r.nextInt(9), any(1, 9), any(0, 1));
    }
  }

  private int change(int call) {
    switch (call) {
      case 14: return x.type(any(0, 255));
      case 15: return x.mark(any(0, 5), any(0, 5));
      case 16: return x.sees(any(0, 20), any(1, 9), any(0, 1));
      case 17: return r.nextInt(5) == 0 ? x.forget() : 0;
      case 18: return keep(any(0, 1));
      case 19: return back(any(0, 1));
      default: return undo();
    }
  }

  private int keep(int image) {
    int answer = x.keep(image);
    if (answer >= 0) {
      kept[image] = Office.moving(x);
      keptKnown.set(image, new ArrayList<>(known));
    }
    return answer;
  }

  private int back(int image) {
    int answer = x.back(image);
    if (answer >= 0) {
      Office.same("back(" + image + ")", Office.moving(x), String.valueOf(kept[image]));
      known.clear();
      known.addAll(keptKnown.get(image));
    } else if (image == 0 || image == 1) {
      Office.due("back(" + image + "), none kept", kept[image] == null ? 1 : 0, 1);
    }
    return answer;
  }

  private int undo() {
    int answer = x.undo();
    Office.due("undo()", answer, known.isEmpty() ? -2 : known.size() - 1);
    if (answer >= 0) Office.same("all behind undo()", Office.moving(x), known.remove(known.size() - 1));
    return answer;
  }

  private int done(int call) {
    switch (call) {
      case 21: return x.ahead(any(0, 5));
      case 22: return r.nextInt(4) == 0 ? x.breaks(any(0, 5)) : x.breaks(-1);
      case 23: return x.fills(any(0, 2), any(1, 99));
      case 24: return x.toner(any(1, 999));
      case 25: return x.empties(any(0, 5));
      case 26: return x.ticks(any(1, 20));
      default: return x.clear();
    }
  }

  private void sane(String name) {
    boolean good = x.now(1) >= 0 && x.now(1) <= 999 && x.now(5) <= x.count(1) && x.count(3) <= 10 && x.count(2) <= 6;
    for (int t = 0; t < 3; t++) good &= x.tray(t, 0) >= 0 && x.tray(t, 0) <= 99;
    for (int b = 0; b < x.count(0); b++) good &= x.bin(b) >= 0 && x.bin(b) <= 20;
    for (int j = 0; j < x.count(1); j++) {
      good &= x.job(j, 6) <= x.job(j, 5) && (x.job(j, 8) == -9) == (x.job(j, 6) < x.job(j, 5));
    }
    Office.due("all within its bounds behind " + name, good ? 1 : 0, 1);
  }
}
