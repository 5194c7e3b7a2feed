import java.util.Random;

/** Promises 20 to 23: sees, forget, whose, look. */
public final class SeenTest {
  public static void main(String[] args) {
    byHand();
    wrongNumbersAndFull();
    lookByHand();
    againstTryingAll();
    Office.end("SeenTest");
  }

  private static void byHand() {
    // fronts: job 0 1 2 1 2, job 1 1 1 2 2, job 2 1 3 1 3
    CopierJobs x = Office.of("j2 2 0 1 0;j2 2 0 0 0;j4 2 1 1 0;");
    Office.due("whose(), nothing seen", x.whose(), 7);
    Office.due("sees(1, 2, 0)", x.sees(1, 2, 0), 1);
    Office.due("whose()", x.whose(), 6);
    Office.due("sees(2, 1, 1)", x.sees(2, 1, 1), 2);
    Office.due("whose()", x.whose(), 4);
    Office.due("look() of one", x.look(), -9);
    Office.due("sees(1, 4, 1), the back is not the front", x.sees(1, 4, 1), 3);
    Office.due("whose()", x.whose(), 0);
    Office.due("look() of none", x.look(), -9);
    Office.due("forget()", x.forget(), 3);
    Office.due("forget() again", x.forget(), 0);
    Office.due("whose() then", x.whose(), 7);
    x.sees(4, 1, 0);
    Office.due("no such sheet has not", x.whose(), 7);
    x.sees(4, 1, 1);
    Office.due("no such sheet has", x.whose(), 0);
    x.forget();
    x.breaks(1);
    x.ticks(20);
    x.sees(1, 1, 1);
    Office.due("ended or not", x.whose(), 2);
    x.undo();
    Office.due("undo() leaves what was seen", x.count(2), 1);
  }

  private static void wrongNumbersAndFull() {
    CopierJobs x = Office.of("j1 1 0 0 0;");
    int[][] bad = {{-1, 1, 0}, {81, 1, 0}, {0, 0, 0}, {0, 10, 0}, {0, 1, -1}, {0, 1, 2}, {Integer.MAX_VALUE, 1, 1}};
    for (int[] b : bad) Office.due("sees, wrong numbers", x.sees(b[0], b[1], b[2]), -1);
    Office.due("sees(80, 9, 0)", x.sees(80, 9, 0), 1);
    for (int i = 2; i <= 6; i++) Office.due("sees(0, 1, 1)", x.sees(0, 1, 1), i);
    Office.due("sees, full", x.sees(0, 1, 1), -3);
    Office.due("sees, full and wrong", x.sees(81, 1, 1), -1);
    Office.due("whose()", x.whose(), 1);
    Office.due("forget()", x.forget(), 6);
    Office.due("sees(0, 1, 1)", x.sees(0, 1, 1), 1);
  }

  private static void lookByHand() {
    Office.due("look(), all alike", Office.of("j3 2 0 1 0;j3 2 0 1 1;").look(), -9);
    Office.due("look(), second sheet", Office.of("j2 2 0 1 0;j2 2 0 0 0;").look(), 11);
    Office.due("look(), behind the end", Office.of("j1 1 0 0 0;j1 2 0 0 0;").look(), 11);
    Office.due("look(), a far sheet", Office.of("j9 9 0 0 0;j9 8 0 0 0;").look(), 81);
    Office.due("look(), the last page", Office.of("j9 1 0 0 0;j8 1 0 0 0;").look(), 89);
    Office.due("look(), no jobs", new CopierJobs().look(), -9);
    // 1 1 2 2; 1 2 1 2; 1 1 1; 1 2 3: sheet 1 parts them by halves.
    Office.due("look(), halves", Office.of("j2 2 0 0 0;j2 2 0 1 0;j1 3 0 0 0;j3 1 0 0 0;").look(), 11);
  }

  private static void againstTryingAll() {
    Random r = new Random(3);
    for (int i = 0; i < 60; i++) {
      StringBuilder s = new StringBuilder();
      int most = 1 + r.nextInt(9);
      for (int j = 1 + r.nextInt(6); j > 0; j--) {
        s.append('j').append(1 + r.nextInt(most)).append(' ').append(1 + r.nextInt(most)).append(' ').append(r.nextInt(2));
        s.append(' ').append(r.nextInt(2)).append(" 0;");
      }
      CopierJobs x = Office.of(s.toString());
      int[][] fronts = fronts(s.toString(), x.count(1));
      int known = 0;
      int[][] seen = new int[6][];
      do {
        Office.due("whose()", x.whose(), whose(fronts, seen, known));
        Office.due("look()", x.look(), look(fronts, x.whose()));
        if (known == 6) break;
        seen[known] = new int[] {r.nextInt(6), 1 + r.nextInt(3), r.nextInt(2)};
        x.sees(seen[known][0], seen[known][1], seen[known][2]);
        known++;
      } while (true);
    }
  }

  /** Of each JOB and SHEET 0 .. 80 the PAGE in FRONT; -1, where there is no such SHEET. */
  private static int[][] fronts(String text, int jobs) {
    int[][] fronts = new int[jobs][81];
    for (int j = 0; j < jobs; j++) {
      CopierJobs x = Office.of(text);
      for (int k = 0; k <= 80; k++) fronts[j][k] = x.sheet(j, k, 1);
    }
    return fronts;
  }

  private static int whose(int[][] fronts, int[][] seen, int known) {
    int bits = 0;
    for (int j = 0; j < fronts.length; j++) {
      boolean fits = true;
      for (int i = 0; i < known; i++) fits &= (fronts[j][seen[i][0]] == seen[i][1]) == (seen[i][2] == 1);
      if (fits) bits |= 1 << j;
    }
    return bits;
  }

  private static int look(int[][] fronts, int bits) {
    int all = Integer.bitCount(bits), least = 99, best = -9;
    for (int number = 1; number <= 809; number++) {
      if (number % 10 == 0) continue;
      int there = 0;
      for (int j = 0; j < fronts.length; j++) if ((bits >> j & 1) != 0 && fronts[j][number / 10] == number % 10) there++;
      if (there == 0 || there == all || Math.max(there, all - there) >= least) continue;
      least = Math.max(there, all - there);
      best = number;
    }
    return best;
  }
}
