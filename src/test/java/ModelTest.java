import java.util.ArrayList;
import java.util.List;
import java.util.Random;

/** TICKS and all that is done, against a model that has each SHEET in a list: {TRAY, SIDES, BIN}. */
public final class ModelTest {
  private final Random r;
  private final List<List<int[]>> jobs = new ArrayList<>();
  private final List<Integer> queue = new ArrayList<>();
  private final int[] made = new int[6], ends = {-9, -9, -9, -9, -9, -9}, trays = new int[3];
  private final int[] bins;
  private int toner, tick, pressed;
  private final CopierJobs x;

  public static void main(String[] args) {
    for (int seed = 0; seed < 400; seed++) new ModelTest(seed).run();
    Office.end("ModelTest");
  }

  private ModelTest(long seed) {
    r = new Random(seed);
    bins = new int[1 + r.nextInt(6)];
    toner = r.nextInt(120);
    for (int t = 0; t < 3; t++) trays[t] = r.nextInt(40);
    StringBuilder s = new StringBuilder("t" + trays[0] + " " + trays[1] + " " + trays[2] + ";k" + toner + ";b" + bins.length + ";");
    for (int j = 1 + r.nextInt(6); j > 0; j--) s.append(aJob());
    x = Office.of(s.toString());
  }

  private String aJob() {
    int pages = 1 + r.nextInt(9), copies = 1 + r.nextInt(9), both = r.nextInt(2), sorted = r.nextInt(2), tray = r.nextInt(3);
    List<int[]> leaves = new ArrayList<>();
    for (int page = 1; page <= pages; page += 1 + both) leaves.add(new int[] {tray, both == 1 && page < pages ? 2 : 1, 0});
    List<int[]> sheets = new ArrayList<>();
    if (sorted == 1) {
      for (int copy = 0; copy < copies; copy++) for (int[] leaf : leaves) sheets.add(new int[] {tray, leaf[1], copy % bins.length});
    } else {
      for (int m = 0; m < leaves.size(); m++) {
        for (int copy = 0; copy < copies; copy++) sheets.add(new int[] {tray, leaves.get(m)[1], m % bins.length});
      }
    }
    queue.add(jobs.size());
    jobs.add(sheets);
    return "j" + pages + " " + copies + " " + both + " " + sorted + " " + tray + ";";
  }

  private void run() {
    for (int i = 0; i < 12; i++) {
      one(r.nextInt(10));
      Office.same("all that is done", Office.brief(x), brief());
    }
  }

  private void one(int call) {
    switch (call) {
      case 0: ahead(r.nextInt(jobs.size())); break;
      case 1: if (r.nextInt(3) == 0) breaks(r.nextInt(jobs.size())); break;
      case 2: fills(r.nextInt(3), 1 + r.nextInt(99)); break;
      case 3: toner(1 + r.nextInt(99)); break;
      case 4: empties(r.nextInt(bins.length)); break;
      default: ticks(1 + r.nextInt(20));
    }
  }

  private int why() {
    if (queue.isEmpty()) return 0;
    int[] sheet = jobs.get(queue.get(0)).get(made[queue.get(0)]);
    return trays[sheet[0]] == 0 ? 1 : toner < sheet[1] ? 2 : bins[sheet[2]] == 20 ? 3 : 0;
  }

  private void ticks(int n) {
    int came = 0;
    for (int i = 0; i < n; i++) {
      tick++;
      if (queue.isEmpty() || why() != 0) continue;
      int j = queue.get(0);
      int[] sheet = jobs.get(j).get(made[j]);
      if (++pressed < sheet[1]) continue;
      pressed = 0;
      came++;
      made[j]++;
      trays[sheet[0]]--;
      toner -= sheet[1];
      bins[sheet[2]]++;
      if (made[j] < jobs.get(j).size()) continue;
      ends[j] = tick;
      queue.remove(0);
    }
    Office.due("ticks(" + n + ")", x.ticks(n), came);
  }

  private void ahead(int j) {
    int place = queue.indexOf(j);
    Office.due("ahead(" + j + ")", x.ahead(j), place <= 0 ? -2 : queue.get(0));
    if (place <= 0) return;
    queue.add(0, queue.remove(place));
    pressed = 0;
  }

  private void breaks(int j) {
    int place = queue.indexOf(j);
    Office.due("breaks(" + j + ")", x.breaks(j), place < 0 ? -2 : queue.size() - 1);
    if (place < 0) return;
    queue.remove(place);
    if (place == 0) pressed = 0;
  }

  private void fills(int t, int n) {
    int then = Math.min(99, trays[t] + n);
    Office.due("fills(" + t + ", " + n + ")", x.fills(t, n), trays[t] == 99 ? -2 : then);
    trays[t] = then;
  }

  private void toner(int n) {
    int then = Math.min(999, toner + n);
    Office.due("toner(" + n + ")", x.toner(n), toner == 999 ? -2 : then);
    toner = then;
  }

  private void empties(int b) {
    Office.due("empties(" + b + ")", x.empties(b), bins[b] == 0 ? -2 : bins[b]);
    bins[b] = 0;
  }

  /** As Office.brief() tells it. */
  private String brief() {
    StringBuilder s = new StringBuilder();
    s.append(' ').append(tick).append(' ').append(toner).append(' ').append(queue.isEmpty() ? -9 : queue.get(0));
    s.append(' ').append(why()).append(' ').append(pressed).append(' ').append(queue.size());
    for (int j = 0; j < jobs.size(); j++) {
      int place = queue.indexOf(j);
      s.append(" job").append(j).append(' ').append(made[j]).append(' ').append(place < 0 ? -9 : place).append(' ').append(ends[j]);
    }
    for (int t : trays) s.append(" tray ").append(t);
    for (int b : bins) s.append(" bin ").append(b);
    return s.toString();
  }
}
