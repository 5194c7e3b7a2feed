import java.util.Random;

/** IN (of promise 5), promises 18 and 19: soon, odds; by hand, and against trying all. */
public final class ReckonTest {
  public static void main(String[] args) {
    soonByHand();
    soonAgainstAllOrders();
    oddsByHand();
    oddsAgainstAllSets();
    inAgainstTicks();
    Office.end("ReckonTest");
  }

  private static void soonByHand() {
    CopierJobs x = Office.of("j3 3 0 0 0;j1 2 0 0 0;j2 1 1 0 0;j1 1 0 0 0;");
    Office.due("soon(0)", x.soon(0), 1 + 3 + 5 + 14);
    Office.due("soon(1)", x.soon(1), 4231);
    x.ahead(2);
    Office.due("soon(1), equals by their numbers", x.soon(1), 4231);
    x.ticks(1);
    Office.due("soon(0), a sheet half done is LEFT", x.soon(0), 23);
    x.breaks(1);
    Office.due("soon(1), one broken off", x.soon(1), 431);
    Office.due("soon(2)", x.soon(2), -1);
    Office.due("soon(-1)", x.soon(-1), -1);
    x = Office.of("t0 0 0;k0;j1 1 0 0 0;");
    Office.due("soon(0), all wanting", x.soon(0), 1);
  }

  private static void soonAgainstAllOrders() {
    Random r = new Random(1);
    for (int i = 0; i < 60; i++) {
      CopierJobs x = Office.of(jobs(r, 1 + r.nextInt(6), 3));
      x.ticks(1 + r.nextInt(20));
      if (r.nextInt(3) == 0) x.breaks(r.nextInt(6));
      int[] left = new int[x.count(1)];
      for (int j = 0; j < left.length; j++) left[j] = x.job(j, 10);
      long[] best = {Long.MAX_VALUE, 0};
      tryOrders(left, x.now(5), 0, 0, 0, 0, best);
      Office.due("soon(0)", x.soon(0), x.now(5) == 0 ? 0 : best[0]);
      Office.due("soon(1)", x.soon(1), x.now(5) == 0 ? 0 : best[1]);
    }
  }

  /** A JOB of which nothing is LEFT is not in THE QUEUE. */
  private static void tryOrders(int[] left, int more, int picked, int behind, int sum, int order, long[] best) {
    if (more == 0 && sum < best[0]) {
      best[0] = sum;
      best[1] = order;
    }
    for (int j = 0; j < left.length; j++) {
      if ((picked >> j & 1) != 0 || left[j] == 0) continue;
      int end = behind + left[j];
      tryOrders(left, more - 1, picked | 1 << j, end, sum + end, order * 10 + j + 1, best);
    }
  }

  private static void oddsByHand() {
    CopierJobs x = Office.of("j4 1 0 0 0;j2 3 1 1 0;j9 9 0 0 0;j1 1 0 0 0;");
    fraction(x, 0, 1, 4, 1, 4);
    fraction(x, 0, 2, 1, 1, 2);
    fraction(x, 0, 4, 2, 1, 1);
    fraction(x, 1, 1, 2, 1, 1);
    fraction(x, 1, 3, 1, 1, 1);
    fraction(x, 2, 1, 9, 1, 9);
    fraction(x, 2, 4, 5, 7055, 18486);
    fraction(x, 3, 1, 1, 1, 1);
    Office.due("odds, fewer sheets", x.odds(3, 2, 1, 0), -2);
    Office.due("odds, fewer sheets", x.odds(1, 4, 1, 1), -2);
    Office.due("odds, fewer sheets, no such page", x.odds(3, 2, 2, 0), -1);
    Office.due("odds, fewer sheets, wrong what", x.odds(3, 2, 1, 2), -1);
    int[][] bad = {{-1, 1, 1, 0}, {4, 1, 1, 0}, {0, 0, 1, 0}, {0, 5, 1, 0}, {0, 1, 0, 0}, {0, 1, 5, 0}, {0, 1, -1, 0},
        {0, 1, 1, -1}, {0, 1, 1, 2}, {2, 1, 10, 0}};
    for (int[] b : bad) Office.due("odds, wrong numbers", x.odds(b[0], b[1], b[2], b[3]), -1);
  }

  private static void fraction(CopierJobs x, int j, int n, int page, int upper, int lower) {
    String call = "odds(" + j + ", " + n + ", " + page + ", ";
    Office.due(call + "0)", x.odds(j, n, page, 0), upper);
    Office.due(call + "1)", x.odds(j, n, page, 1), lower);
  }

  private static void oddsAgainstAllSets() {
    for (int code = 0; code < 4 * 4 * 4; code++) {
      int pages = code % 4 + 1, copies = code / 4 % 4 + 1;
      CopierJobs x = Office.of("j" + pages + " " + copies + " " + code / 16 % 2 + " " + code / 32 + " 0;");
      int all = x.job(0, 5);
      int[] on = sheetsOfPages(x, all);
      for (int n = 1; n <= 4; n++) {
        if (n > all) {
          Office.due("odds, too few", x.odds(0, n, 1, 0), -2);
          continue;
        }
        for (int page = 1; page <= pages; page++) setsWith(x, n, page, on[page], all);
      }
    }
  }

  private static int[] sheetsOfPages(CopierJobs x, int all) {
    int[] on = new int[10];
    for (int k = 0; k < all; k++) {
      on[x.sheet(0, k, 1)] |= 1 << k;
      on[x.sheet(0, k, 2)] |= 1 << k;
    }
    return on;
  }

  private static void setsWith(CopierJobs x, int n, int page, int on, int all) {
    int sets = 0, having = 0;
    for (int set = 0; set < 1 << all; set++) {
      if (Integer.bitCount(set) != n) continue;
      sets++;
      if ((set & on) != 0) having++;
    }
    int d = having;
    while (having % d != 0 || sets % d != 0) d--;
    fraction(x, 0, n, page, having / d, sets / d);
  }

  /** IN of every job, against what comes of ticks on a twin. */
  private static void inAgainstTicks() {
    Random r = new Random(2);
    for (int i = 0; i < 60; i++) {
      String text = "t" + r.nextInt(60) + " " + r.nextInt(60) + " 30;k" + r.nextInt(300) + ";b" + (1 + r.nextInt(6)) + ";"
          + jobs(r, 1 + r.nextInt(6), 5);
      CopierJobs x = Office.of(text), twin = Office.of(text);
      int n = 1 + r.nextInt(20);
      x.ticks(n);
      twin.ticks(n);
      int from = twin.now(0);
      for (int t = 0; t < 20; t++) twin.ticks(20);
      for (int j = 0; j < x.count(1); j++) {
        boolean ends = x.job(j, 7) != CopierJobs.NONE && twin.job(j, 8) != CopierJobs.NONE;
        Office.due("IN of job " + j + " of " + text, x.job(j, 9), ends ? twin.job(j, 8) - from : -9);
      }
      Office.due("nothing is changed", x.now(0), from);
    }
  }

  private static String jobs(Random r, int n, int most) {
    StringBuilder s = new StringBuilder();
    for (int j = 0; j < n; j++) {
      s.append('j').append(1 + r.nextInt(most)).append(' ').append(1 + r.nextInt(most)).append(' ').append(r.nextInt(2));
      s.append(' ').append(r.nextInt(2)).append(' ').append(r.nextInt(3)).append(';');
    }
    return s.toString();
  }
}
