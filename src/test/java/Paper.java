import java.math.BigInteger;
import java.util.ArrayList;
import java.util.Collections;
import java.util.List;
import java.util.regex.Matcher;
import java.util.regex.Pattern;

/**
 * The document read a second time, with every call of the face: slow and plain, of values that never change and of
 * lists, so that it shares no way of reckoning with the class. WholeTest holds the two against each other.
 */
final class Paper {
  private static final int BAD = -1, STATE = -2, FULL = -3, NONE = -9, NO = -1000000;
  private static final Pattern TOKEN = Pattern.compile("[a-z]+|[0-9]+|[^ ]");
  private static final List<Integer> STOP = List.of();

  /** A SHEET as it comes out. */
  private record Sheet(int copy, int front, int back, int bin) {
    int sides() {
      return back == 0 ? 1 : 2;
    }

    boolean has(int page) {
      return front == page || back == page;
    }
  }

  private record Job(int number, int pages, int copies, int both, int sorted, int tray, List<Sheet> sheets) { }

  private record Told(List<Integer> trays, int toner, int bins, List<Job> jobs) { }

  /** NOW, but for what may be UNDONE. */
  private record Moment(int tick, List<Integer> queue, List<Integer> made, boolean half, List<Integer> ends,
      List<Integer> trays, int toner, List<Integer> bins) { }

  private record Image(Moment moment, List<Moment> known) { }

  private record Sight(int k, int page, boolean there) { }

  private String text = "";
  private Told told;
  private Moment moment;
  private List<Moment> known = List.of();
  private final List<Sight> seen = new ArrayList<>();
  private final Image[] images = new Image[2];
  private long traced = 0;

  Paper() {
    tell(new Told(List.of(20, 20, 20), 200, 4, List.of()));
  }

  private void tell(Told t) {
    told = t;
    List<Integer> queue = new ArrayList<>();
    for (Job job : t.jobs) queue.add(job.number);
    moment = new Moment(0, queue, Collections.nCopies(6, 0), false, Collections.nCopies(6, NONE), t.trays, t.toner,
        Collections.nCopies(t.bins, 0));
    known = List.of();
    seen.clear();
    images[0] = null;
    images[1] = null;
  }

  // ---- the office

  int type(int c) {
    if (c < 0 || c > 255) return BAD;
    if (text.length() == 120) return FULL;
    text += (char) c;
    return text.length();
  }

  int clear() {
    int had = text.length();
    text = "";
    return had;
  }

  /** What must come next of an ITEM: each a least and a most, STOP for its end; none: a letter, or the end. */
  private static List<List<Integer>> shape(String letter) {
    List<Integer> tray = List.of(0, 99), count = List.of(1, 9), flag = List.of(0, 1);
    switch (letter) {
      case "t": return List.of(tray, tray, tray, STOP);
      case "k": return List.of(List.of(0, 999), STOP);
      case "b": return List.of(List.of(1, 6), STOP);
      case "j": return List.of(count, count, flag, flag, List.of(0, 2), STOP);
      default: return List.of();
    }
  }

  int office() {
    List<List<Integer>> wanted = List.of();
    List<List<String>> items = new ArrayList<>();
    Matcher tokens = TOKEN.matcher(text);
    while (tokens.find()) {
      String word = tokens.group();
      if (wanted.isEmpty()) {
        wanted = shape(word);
        if (wanted.isEmpty() || times(items, word) == (word.equals("j") ? 6 : 1)) return -10 - tokens.start();
        items.add(new ArrayList<>());
      } else {
        if (!stands(word, wanted.get(0))) return -10 - tokens.start();
        wanted = wanted.subList(1, wanted.size());
      }
      items.get(items.size() - 1).add(word);
    }
    if (!wanted.isEmpty()) return -10 - text.length();
    text = "";
    tell(toldBy(items));
    return items.size();
  }

  private static int times(List<List<String>> items, String letter) {
    int n = 0;
    for (List<String> item : items) if (item.get(0).equals(letter)) n++;
    return n;
  }

  private static boolean stands(String word, List<Integer> want) {
    if (want.equals(STOP)) return word.equals(";");
    if (!word.matches("0|[1-9][0-9]?[0-9]?")) return false;
    int n = Integer.parseInt(word);
    return n >= want.get(0) && n <= want.get(1);
  }

  private static Told toldBy(List<List<String>> items) {
    List<Integer> trays = List.of(20, 20, 20);
    int toner = 200, bins = 4;
    List<List<Integer>> jobs = new ArrayList<>();
    for (List<String> item : items) {
      List<Integer> n = new ArrayList<>();
      for (String word : item.subList(1, item.size() - 1)) n.add(Integer.parseInt(word));
      if (item.get(0).equals("t")) trays = n;
      if (item.get(0).equals("k")) toner = n.get(0);
      if (item.get(0).equals("b")) bins = n.get(0);
      if (item.get(0).equals("j")) jobs.add(n);
    }
    List<Job> made = new ArrayList<>();
    for (List<Integer> n : jobs) made.add(aJob(made.size(), n, bins));
    return new Told(trays, toner, bins, made);
  }

  private static Job aJob(int number, List<Integer> n, int bins) {
    int pages = n.get(0), copies = n.get(1), both = n.get(2), sorted = n.get(3);
    List<int[]> leaves = new ArrayList<>();
    for (int page = 1; page <= pages; page += 1 + both) {
      leaves.add(new int[] {page, both == 1 && page < pages ? page + 1 : 0});
    }
    List<Sheet> sheets = new ArrayList<>();
    for (int outer = 0; outer < (sorted == 1 ? copies : leaves.size()); outer++) {
      for (int inner = 0; inner < (sorted == 1 ? leaves.size() : copies); inner++) {
        int[] leaf = leaves.get(sorted == 1 ? inner : outer);
        // Of a copy, or of a LEAF: the outer of the two is what a BIN is taken by.
        sheets.add(new Sheet(sorted == 1 ? outer : inner, leaf[0], leaf[1], outer % bins));
      }
    }
    return new Job(number, pages, copies, both, sorted, n.get(4), sheets);
  }

  private boolean noJob(int j) {
    return j < 0 || j >= told.jobs.size();
  }

  int job(int j, int what) {
    if (noJob(j) || what < 0 || what > 10) return BAD;
    Job job = told.jobs.get(j);
    int place = moment.queue.indexOf(j);
    int[] answers = {job.pages, job.copies, job.both, job.sorted, job.tray, job.sheets.size(), moment.made.get(j),
        place < 0 ? NONE : place, moment.ends.get(j), what == 9 ? in(j) : 0, left(j)};
    return answers[what];
  }

  int sheet(int j, int k, int what) {
    if (noJob(j) || k < 0 || k >= told.jobs.get(j).sheets.size() || what < 0 || what > 3) return BAD;
    Sheet s = told.jobs.get(j).sheets.get(k);
    return new int[] {s.copy, s.front, s.back, s.bin}[what];
  }

  int where(int j, int page, int copy) {
    if (noJob(j) || page == 0) return BAD;
    List<Sheet> sheets = told.jobs.get(j).sheets;
    for (int k = 0; k < sheets.size(); k++) if (sheets.get(k).has(page) && sheets.get(k).copy == copy) return k;
    return BAD;
  }

  int tray(int t, int what) {
    if (t < 0 || t > 2 || what < 0 || what > 1) return BAD;
    if (what == 0) return moment.trays.get(t);
    int want = 0;
    for (int j : moment.queue) if (told.jobs.get(j).tray == t) want += notMade(j).size();
    return Math.max(0, want - moment.trays.get(t));
  }

  int bin(int b) {
    return b < 0 || b >= told.bins ? BAD : moment.bins.get(b);
  }

  // ---- what is done

  private static <T> List<T> with(List<T> list, int i, T value) {
    List<T> changed = new ArrayList<>(list);
    changed.set(i, value);
    return changed;
  }

  private static List<Integer> without(List<Integer> list, int number) {
    List<Integer> changed = new ArrayList<>(list);
    changed.remove((Integer) number);
    return changed;
  }

  private void becomes(Moment next) {
    List<Moment> more = new ArrayList<>(known);
    more.add(moment);
    known = more.size() > 10 ? more.subList(1, 11) : more;
    moment = next;
  }

  private Sheet nextSheet(Moment m) {
    int j = m.queue.get(0);
    return told.jobs.get(j).sheets.get(m.made.get(j));
  }

  private int why(Moment m) {
    if (m.queue.isEmpty()) return 0;
    if (m.trays.get(told.jobs.get(m.queue.get(0)).tray) == 0) return 1;
    if (m.toner < nextSheet(m).sides()) return 2;
    return m.bins.get(nextSheet(m).bin) == 20 ? 3 : 0;
  }

  private Moment tick(Moment m) {
    int tick = m.tick + 1;
    if (m.queue.isEmpty() || why(m) != 0) return new Moment(tick, m.queue, m.made, m.half, m.ends, m.trays, m.toner, m.bins);
    Sheet s = nextSheet(m);
    if (s.sides() == 2 && !m.half) return new Moment(tick, m.queue, m.made, true, m.ends, m.trays, m.toner, m.bins);
    int j = m.queue.get(0), t = told.jobs.get(j).tray, made = m.made.get(j) + 1;
    boolean ends = made == told.jobs.get(j).sheets.size();
    return new Moment(tick, ends ? without(m.queue, j) : m.queue, with(m.made, j, made), false, ends ? with(m.ends, j, tick) : m.ends,
        with(m.trays, t, m.trays.get(t) - 1), m.toner - s.sides(), with(m.bins, s.bin, m.bins.get(s.bin) + 1));
  }

  private static int sum(List<Integer> list) {
    int sum = 0;
    for (int n : list) sum += n;
    return sum;
  }

  int ticks(int n) {
    if (n < 1 || n > 20) return BAD;
    if (moment.tick + n > 9999) return STATE;
    Moment m = moment;
    for (int i = 0; i < n; i++) m = tick(m);
    int came = sum(m.made) - sum(moment.made);
    becomes(m);
    return came;
  }

  int ahead(int j) {
    if (noJob(j)) return BAD;
    if (moment.queue.indexOf(j) <= 0) return STATE;
    int first = moment.queue.get(0);
    List<Integer> queue = without(moment.queue, j);
    queue.add(0, j);
    becomes(new Moment(moment.tick, queue, moment.made, false, moment.ends, moment.trays, moment.toner, moment.bins));
    return first;
  }

  int breaks(int j) {
    if (noJob(j)) return BAD;
    if (!moment.queue.contains(j)) return STATE;
    boolean half = moment.half && moment.queue.get(0) != j;
    becomes(new Moment(moment.tick, without(moment.queue, j), moment.made, half, moment.ends, moment.trays, moment.toner, moment.bins));
    return moment.queue.size();
  }

  private void supplied(List<Integer> trays, int toner, List<Integer> bins) {
    becomes(new Moment(moment.tick, moment.queue, moment.made, moment.half, moment.ends, trays, toner, bins));
  }

  int fills(int t, int n) {
    if (t < 0 || t > 2 || n < 1 || n > 99) return BAD;
    if (moment.trays.get(t) == 99) return STATE;
    supplied(with(moment.trays, t, Math.min(99, moment.trays.get(t) + n)), moment.toner, moment.bins);
    return moment.trays.get(t);
  }

  int toner(int n) {
    if (n < 1 || n > 999) return BAD;
    if (moment.toner == 999) return STATE;
    supplied(moment.trays, Math.min(999, moment.toner + n), moment.bins);
    return moment.toner;
  }

  int empties(int b) {
    if (b < 0 || b >= told.bins) return BAD;
    int had = moment.bins.get(b);
    if (had == 0) return STATE;
    supplied(moment.trays, moment.toner, with(moment.bins, b, 0));
    return had;
  }

  int undo() {
    if (known.isEmpty()) return STATE;
    moment = known.get(known.size() - 1);
    known = known.subList(0, known.size() - 1);
    return known.size();
  }

  int now(int what) {
    if (what < 0 || what > 7) return BAD;
    int wanted = 0;
    for (int j : moment.queue) wanted += left(j);
    int[] answers = {moment.tick, moment.toner, moment.queue.isEmpty() ? NONE : moment.queue.get(0), why(moment), moment.half ? 1 : 0,
        moment.queue.size(), sum(moment.bins), Math.max(0, wanted - moment.toner)};
    return answers[what];
  }

  // ---- what is reckoned

  private int in(int j) {
    if (!moment.queue.contains(j)) return NONE;
    Moment m = moment;
    for (int n = 1; n <= 400; n++) {
      m = tick(m);
      if (!m.queue.contains(j)) return n;
    }
    return NONE;
  }

  private List<Sheet> notMade(int j) {
    List<Sheet> sheets = told.jobs.get(j).sheets;
    return sheets.subList(moment.made.get(j), sheets.size());
  }

  private int left(int j) {
    if (!moment.queue.contains(j)) return 0;
    int left = 0;
    for (Sheet s : notMade(j)) left += s.sides();
    return left;
  }

  int soon(int what) {
    if (what < 0 || what > 1) return BAD;
    if (moment.queue.isEmpty()) return 0;
    List<Integer> numbers = new ArrayList<>(moment.queue);
    Collections.sort(numbers);
    int[] best = {Integer.MAX_VALUE, 0};
    tryOrders(numbers, new ArrayList<>(), best);
    return best[what];
  }

  /** In the order of their numbers, so that only a lesser sum takes the place of the first. */
  private void tryOrders(List<Integer> others, List<Integer> order, int[] best) {
    if (others.isEmpty()) {
      int sum = 0, behind = 0, figures = 0;
      for (int j : order) {
        behind += left(j);
        sum += behind;
        figures = figures * 10 + j + 1;
      }
      if (sum < best[0]) {
        best[0] = sum;
        best[1] = figures;
      }
    }
    for (int j : others) {
      List<Integer> longer = new ArrayList<>(order);
      longer.add(j);
      tryOrders(without(others, j), longer, best);
    }
  }

  int odds(int j, int n, int page, int what) {
    if (noJob(j) || n < 1 || n > 4 || page < 1 || page > told.jobs.get(j).pages || what < 0 || what > 1) return BAD;
    List<Sheet> sheets = told.jobs.get(j).sheets;
    if (sheets.size() < n) return STATE;
    int lacking = 0;
    for (Sheet s : sheets) if (!s.has(page)) lacking++;
    int all = ways(sheets.size(), n), having = all - ways(lacking, n);
    return (what == 0 ? having : all) / BigInteger.valueOf(having).gcd(BigInteger.valueOf(all)).intValue();
  }

  /** How many sets of k there are of n: those without the last, and those with it. */
  private static int ways(int n, int k) {
    int[] row = new int[k + 1];
    row[0] = 1;
    for (int i = 0; i < n; i++) for (int m = k; m > 0; m--) row[m] += row[m - 1];
    return row[k];
  }

  // ---- whose it was

  int sees(int k, int page, int there) {
    if (k < 0 || k > 80 || page < 1 || page > 9 || there < 0 || there > 1) return BAD;
    if (seen.size() == 6) return FULL;
    seen.add(new Sight(k, page, there == 1));
    return seen.size();
  }

  int forget() {
    int had = seen.size();
    seen.clear();
    return had;
  }

  private boolean isSo(Job job, Sight s) {
    return (s.k < job.sheets.size() && job.sheets.get(s.k).front == s.page) == s.there;
  }

  private List<Job> suspects() {
    List<Job> left = new ArrayList<>(told.jobs);
    for (Sight s : seen) left.removeIf(job -> !isSo(job, s));
    return left;
  }

  int whose() {
    int bits = 0;
    for (Job job : suspects()) bits += 1 << job.number;
    return bits;
  }

  int look() {
    List<Job> jobs = suspects();
    int best = NONE, least = jobs.size();
    for (int number = 1; number <= 809; number++) {
      if (number % 10 == 0) continue;
      Sight s = new Sight(number / 10, number % 10, true);
      int there = 0;
      for (Job job : jobs) if (isSo(job, s)) there++;
      int greater = Math.max(there, jobs.size() - there);
      if (greater >= least) continue;
      least = greater;
      best = number;
    }
    return best;
  }

  // ---- kinds, images: the KINDS are classes over one another

  private class JobKind {
    int mark(Job job) {
      traced += 1;
      return job.pages;
    }
  }

  private class Memo extends JobKind {
    @Override int mark(Job job) {
      traced += 10;
      return super.mark(job) + job.copies;
    }
  }

  private class Report extends JobKind {
    @Override int mark(Job job) {
      traced += 100;
      return super.mark(job) - moment.made.get(job.number);
    }
  }

  private class Notice extends Memo {
    @Override int mark(Job job) {
      traced += 1000;
      return super.mark(job) * 2;
    }
  }

  private class Ledger extends Report {
    @Override int mark(Job job) {
      traced += 10000;
      return super.mark(job) + job.number;
    }
  }

  private class Flyer extends JobKind {
    @Override int mark(Job job) {
      traced += 100000;
      return super.mark(job) + moment.tick;
    }
  }

  int mark(int kind, int j) {
    List<JobKind> kinds = List.of(new JobKind(), new Memo(), new Report(), new Notice(), new Ledger(), new Flyer());
    return kind < 0 || kind >= kinds.size() || noJob(j) ? NO : kinds.get(kind).mark(told.jobs.get(j));
  }

  int keep(int image) {
    if (image != 0 && image != 1) return BAD;
    images[image] = new Image(moment, known);
    return moment.tick;
  }

  int back(int image) {
    if (image != 0 && image != 1) return BAD;
    if (images[image] == null) return STATE;
    moment = images[image].moment;
    known = images[image].known;
    return moment.tick;
  }

  int count(int what) {
    if (what < 0 || what > 4) return BAD;
    return new int[] {told.bins, told.jobs.size(), seen.size(), known.size(), text.length()}[what];
  }

  long trace() {
    return traced;
  }
}
