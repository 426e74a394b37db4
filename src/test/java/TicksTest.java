/** Promises 12 to 21: ticks, notices, who holds what from whom, ways, curves. */
public final class TicksTest {
  private static final String TWO = "person 50;person 50;tie 0 1 5;";
  private static final String CHAIN = "person 100;person 100;person 100;tie 0 1 1;tie 1 2 1;";

  public static void main(String[] args) {
    beginning();
    heeding();
    moreHeed();
    choosing();
    knowing();
    settledAtFirst();
    newestFirst();
    silentAndAlone();
    barring();
    joining();
    noticing();
    wayOverJoin();
    ninesOfOne();
    ninesOfThree();
    curves();
    freshAgain();
    refusals();
    Check.end();
  }

  private static void beginning() {
    TwoRumours x = Check.with(TWO, "say;say;");
    Check.due("begin", x.begin(0, 1), 1);
    Check.due("begin again", x.begin(0, 1), Check.NOT);
    Check.due("another", x.begin(1, 1), 2);
    Check.due("began", x.count(7), 2);
    Check.due("tells", x.holds(0, 1, 0), 1);
    Check.due("from nobody", x.holds(0, 1, 1), Check.NOBODY);
    Check.due("at 0", x.holds(0, 1, 2), 0);
    Check.due("not held", x.holds(0, 0, 0), 0);
    Check.due("not held: from", x.holds(0, 0, 1), Check.NONE);
    Check.due("not held: tick", x.holds(0, 0, 2), Check.NONE);
    Check.due("not held: known", x.holds(0, 0, 3), 0);
    Check.due("not held: told by", x.holds(0, 0, 4), 0);
    Check.due("holders", x.holders(1), 3);
    Check.due("holders", x.holders(0), 0);
    TwoRumours y = Check.with("person 0;".repeat(24), "say;say;");
    for (int k = 0; k < 40; k++) {
      Check.due("begin " + k, y.begin(k % 24, k / 24), k % 24 + 1);
    }
    Check.due("the 41st", y.begin(16, 1), Check.FULL);
    Check.due("NOT ahead of FULL", y.begin(0, 0), Check.NOT);
    Check.due("40 began", y.count(7), 40);
    Check.due("does not hold", y.holds(16, 1, 0), 0);
  }

  private static TwoRumours told(int draw) {
    TwoRumours x = Check.with(TWO, "say;");
    x.begin(0, 0);
    x.seed(Check.seedFor(new int[] {5, 100}, new int[] {-1, draw}));
    return x;
  }

  private static void heeding() {
    TwoRumours x = told(49);
    Check.due("49 is below 50", x.go(1), 1);
    Check.due("from 0", x.holds(1, 0, 1), 0);
    Check.due("at 0", x.holds(1, 0, 2), 0);
    Check.due("tells", x.holds(1, 0, 0), 1);
    Check.due("told by", x.holds(1, 0, 4), 1);
    Check.due("tick", x.count(4), 1);
    TwoRumours y = told(50);
    int seed = y.seed(0);
    y.seed(seed);
    Check.due("50 is not", y.go(1), 0);
    Check.due("not held", y.holders(0), 1);
    Check.due("told by all the same", y.holds(1, 0, 4), 1);
    Check.due("no 'I know'", y.holds(0, 0, 3), 0);
    Check.due("no NO", y.count(5), 0);
    long after = seed;
    for (int k = 0; k < 2; k++) {
      after = (after * 1103515245L + 12345L) % 2147483648L;
    }
    Check.due("two draws", y.seed(0), after);
  }

  private static void moreHeed() {
    for (int rule : new int[] {0, 20, 50, 51, 100}) {
      for (int draw : new int[] {49, 50, 69, 70, 99}) {
        TwoRumours x = Check.with(TWO, "say asks 4;say answers 4;");
        x.rule(1, rule);
        x.begin(1, 0);
        x.begin(0, 1);
        x.seed(Check.seedFor(new int[] {5, 100}, new int[] {-1, draw}));
        x.go(1);
        Check.due("heed 50 and " + rule + " by " + draw, x.holds(1, 1, 0), draw < Math.min(100, 50 + rule) ? 1 : 0);
        TwoRumours y = Check.with(TWO, "say asks 4;say answers 5;");
        y.rule(1, rule);
        y.begin(1, 0);
        y.begin(0, 1);
        y.seed(Check.seedFor(new int[] {5, 100}, new int[] {-1, draw}));
        y.go(1);
        Check.due("another question, by " + draw, y.holds(1, 1, 0), draw < 50 ? 1 : 0);
      }
    }
    TwoRumours z = Check.with(TWO, "say asks 4;say;");
    z.rule(1, 100);
    z.begin(1, 0);
    z.begin(0, 1);
    z.seed(Check.seedFor(new int[] {5, 100}, new int[] {-1, 50}));
    z.go(1);
    Check.due("what answers nothing", z.holds(1, 1, 0), 0);
  }

  private static void choosing() {
    for (int draw = 0; draw < 6; draw++) {
      TwoRumours x = Check.with("person 100;person 100;person 100;person 100;tie 3 0 2;tie 0 1 3;tie 1 2 9;tie 2 0 1;", "say;");
      x.begin(0, 0);
      x.seed(Check.seedFor(new int[] {6}, new int[] {draw}));
      x.go(1);
      int due = draw < 2 ? 3 : draw < 5 ? 1 : 2;
      Check.due("draw " + draw + " leads to", x.holders(0), 1 | 1 << due);
    }
  }

  private static void knowing() {
    TwoRumours x = Check.with("person 0;person 0 silent;tie 0 1 1;", "say;");
    x.begin(0, 0);
    x.begin(1, 0);
    for (int k = 1; k <= 3; k++) {
      Check.due("tells before", x.holds(0, 0, 0), 1);
      Check.due("nobody came", x.go(1), 0);
      Check.due("I know", x.holds(0, 0, 3), k);
    }
    Check.due("tired", x.holds(0, 0, 0), 2);
    Check.due("the silent one tells nobody", x.holds(1, 0, 3), 0);
    Check.due("told by", x.holds(1, 0, 4), 1);
    int seed = x.seed(0);
    x.seed(seed);
    x.go(500);
    Check.due("no draw of the tired", x.seed(0), seed);
    Check.due("still three", x.holds(0, 0, 3), 3);
    Check.due("ticks all the same", x.count(4), 503);
    TwoRumours y = Check.with("person 0;person 0 silent;tie 0 1 1;", "say;");
    y.rule(0, 20);
    y.begin(0, 0);
    y.begin(1, 0);
    y.go(5);
    y.rule(0, 2);
    Check.due("a new rule does not tire by itself", y.holds(0, 0, 0), 1);
    y.go(1);
    Check.due("the next one does", y.holds(0, 0, 0), 2);
    Check.due("six", y.holds(0, 0, 3), 6);
  }

  private static void settledAtFirst() {
    TwoRumours x = Check.with(CHAIN, "say;");
    x.begin(0, 0);
    Check.due("one in the first tick", x.go(1), 1);
    Check.due("the third was not told", x.holders(0), 3);
  }

  private static void newestFirst() {
    TwoRumours x = Check.with(CHAIN, "say;say;");
    x.begin(0, 1);
    x.begin(1, 0);
    // 0 tells 1 first; 1 then tells 2 what it has since this tick, of like ticks the greatest number
    x.seed(Check.seedFor(new int[] {1, 100, 2}, new int[] {-1, -1, 1}));
    Check.due("two came", x.go(1), 2);
    Check.due("the newest", x.holders(1), 7);
    Check.due("not the older", x.holders(0), 2);
    TwoRumours y = Check.with("person 0;person 100;tie 0 1 1;", "say;say;");
    y.begin(0, 1);
    y.go(1);
    y.begin(0, 0);
    y.begin(1, 0);
    y.go(1);
    Check.due("later by tick", y.holds(0, 0, 3), 1);
    TwoRumours z = Check.with("person 0;person 0 silent;tie 0 1 1;", "say;say;");
    z.rule(0, 1);
    z.begin(0, 0);
    z.begin(0, 1);
    z.begin(1, 0);
    z.begin(1, 1);
    z.go(1);
    Check.due("the greatest number first", z.holds(0, 1, 0), 2);
    Check.due("the other later", z.holds(0, 0, 0), 1);
    z.go(1);
    Check.due("then the other", z.holds(0, 0, 0), 2);
  }

  private static void silentAndAlone() {
    TwoRumours x = Check.with("person 100 silent;person 100;person 100;tie 0 1 1;", "say;");
    x.seed(77);
    x.begin(0, 0);
    x.begin(2, 0);
    Check.due("nobody tells", x.go(10), 0);
    Check.due("nobody draws", x.seed(0), 77);
    Check.due("holders", x.holders(0), 5);
    Check.due("silent, yet it tells it", x.holds(0, 0, 0), 1);
  }

  private static void barring() {
    TwoRumours x = Check.with("person 100;person 100 silent;tie 0 1 1;", "say;say bars 0;");
    x.begin(0, 0);
    x.begin(1, 1);
    Check.due("no", x.go(4), 0);
    Check.due("four NOs", x.count(5), 4);
    Check.due("told by", x.holds(1, 0, 4), 1);
    Check.due("goes on telling", x.holds(0, 0, 0), 1);
    Check.due("no 'I know'", x.holds(0, 0, 3), 0);
    TwoRumours y = Check.with("person 100;person 100 silent;tie 0 1 1;", "say;say;say bars 0,1;say joins 1 2;");
    y.begin(0, 2);
    y.begin(1, 0);
    y.begin(1, 1);
    Check.due("the first such has no join", y.go(1), 0);
    Check.due("NO", y.count(5), 1);
  }

  private static void joining() {
    TwoRumours x = Check.with("person 0;person 0 silent;tie 0 1 1;", "say;say bars 0;say joins 0 1;");
    x.begin(0, 1);
    x.begin(1, 0);
    x.seed(3);
    Check.due("joined without heed", x.go(1), 1);
    Check.due("held", x.holds(1, 2, 0), 1);
    Check.due("from the one that tells", x.holds(1, 2, 1), 0);
    Check.due("told by for the told one", x.holds(1, 1, 4), 1);
    Check.due("not for the join", x.holds(1, 2, 4), 0);
    Check.due("the told one is not held", x.holds(1, 1, 0), 0);
    Check.due("no NO", x.count(5), 0);
    Check.due("again", x.go(1), 0);
    Check.due("the join is held: NO", x.count(5), 1);
  }

  private static void noticing() {
    String town = "person 1 at 2;person 2;person 3 at 2;person 4 at 1;";
    TwoRumours x = Check.with(town, "say;say bars 0;say;");
    x.begin(0, 1);
    x.begin(0, 2);
    x.begin(2, 0);
    x.begin(2, 1);
    x.go(4);
    Check.due("all believe", x.notice(2, 0, 100), 1);
    Check.due("by the notice", x.holds(0, 0, 1), 24);
    Check.due("now", x.holds(0, 0, 2), 4);
    Check.due("tells", x.holds(0, 0, 0), 1);
    Check.due("tired of the barred", x.holds(0, 1, 0), 2);
    Check.due("not of others", x.holds(0, 2, 0), 1);
    Check.due("who held it, too", x.holds(2, 1, 0), 2);
    Check.due("its own stays", x.holds(2, 0, 1), Check.NOBODY);
    Check.due("its own tick", x.holds(2, 0, 2), 0);
    Check.due("others not", x.holders(0), 5);
    Check.due("a notice does not begin", x.count(7), 4);
    Check.due("its way is itself", x.way(0, 0, -1), 1);
    int seed = x.seed(0);
    x.seed(seed);
    Check.due("nobody believes", x.notice(1, 0, 0), 0);
    Check.due("a draw all the same", x.seed(0), (seed * 1103515245L + 12345L) % 2147483648L);
    TwoRumours y = Check.with(town, "say;");
    y.seed(Check.seedFor(new int[] {100, 100}, new int[] {30, 29}));
    Check.due("30 is not below 30, 29 is", y.notice(2, 0, 30), 1);
    Check.due("the second one", y.holders(0), 4);
    Check.due("nobody sits there", y.notice(3, 0, 100), 0);
    Check.due("place 4", y.notice(4, 0, 101), Check.UNKNOWN);
    Check.due("place -1", y.notice(-1, 0, 1), Check.UNKNOWN);
    Check.due("saying 1", y.notice(0, 1, 1), Check.UNKNOWN);
    Check.due("b 101", y.notice(0, 0, 101), Check.OUTSIDE);
    Check.due("b -1", y.notice(0, 0, -1), Check.OUTSIDE);
  }

  private static void wayOverJoin() {
    // 0 tells 1 saying 0, 1 puts it together with its own, and tells 0 the join
    TwoRumours x = Check.with("person 100;person 0;person 0;tie 0 1 1;", "say;say bars 0;say joins 0 1;");
    x.begin(0, 0);
    x.begin(1, 1);
    Check.due("both come to hold the join in one tick", x.go(1), 2);
    Check.due("1 has the join from 0", x.holds(1, 2, 1), 0);
    Check.due("its way", x.way(1, 2, -1), 2);
    Check.due("its root told another saying", x.way(1, 2, 1), 0);
    Check.due("0 has the join from 1", x.holds(0, 2, 1), 1);
    Check.due("1 told it the join", x.holds(0, 2, 4), 2);
    int[] way = {3, 0, 1, 0, Check.NONE};
    for (int i = -1; i < 4; i++) {
      Check.due("way of 0 at " + i, x.way(0, 2, i), way[i + 1]);
    }
    Check.due("0 is on the way of 1", x.below(0, 2), 2);
    Check.due("1 on that of 0", x.below(1, 2), 1);
    Check.due("what came back is worth nothing", x.nine(0, 2, 0), 0);
    Check.due("nor is it split", x.nine(0, 2, 1), 0);
  }

  private static void ninesOfOne() {
    String town = "person 100;person 100;person 100;person 100;person 100;"
        + "tie 0 1 1;tie 0 2 1;tie 0 3 1;tie 1 4 1;tie 2 4 1;tie 3 4 1;";
    TwoRumours x = null;
    boolean found = false;
    for (int seed = 0; seed < 5000 && !found; seed++) {
      x = Check.with(town, "say;");
      x.seed(seed);
      x.begin(0, 0);
      x.go(6);
      found = x.holders(0) == 31 && x.holds(4, 0, 4) == 14
          && x.holds(1, 0, 1) == 0 && x.holds(2, 0, 1) == 0 && x.holds(3, 0, 1) == 0;
    }
    Check.due("found", found ? 1 : 0, 1);
    Check.due("three tellings of one", x.nine(4, 0, 0), 1);
    Check.due("split", x.nine(4, 0, 1), 3);
    Check.due("way of 4", x.way(4, 0, -1), 3);
    Check.due("itself", x.way(4, 0, 0), 4);
    Check.due("from", x.way(4, 0, 1), x.holds(4, 0, 1));
    Check.due("root", x.way(4, 0, 2), 0);
    Check.due("no further", x.way(4, 0, 3), Check.NONE);
    Check.due("all have it by 0", x.below(0, 0), 30);
    Check.due("below the one that told 4", x.below(x.holds(4, 0, 1), 0), 16);
    Check.due("nobody by 4", x.below(4, 0), 0);
    Check.due("0 began, all that told it have it by 0", x.nine(0, 0, 0), 0);
  }

  private static void ninesOfThree() {
    TwoRumours x = Check.with("person 0;person 0;person 0;person 0 silent at 0;tie 0 3 1;tie 1 3 1;tie 2 3 1;", "say;");
    for (int p = 0; p < 3; p++) {
      x.begin(p, 0);
    }
    x.go(1);
    Check.due("three of their own", x.nine(3, 0, 0), 3);
    Check.due("from nobody is no person", x.nine(3, 0, 1), 0);
    Check.due("it does not hold it", x.way(3, 0, 0), Check.NONE);
    Check.due("how many of nothing", x.way(3, 0, -1), Check.NONE);
    Check.due("nobody told 0", x.nine(0, 0, 0), 0);
  }

  private static void curves() {
    TwoRumours x = Check.with(CHAIN, "say;say bars 0;");
    x.begin(0, 0);
    x.go(2);
    x.begin(2, 1);
    x.go(30);
    x.seed(0);
    Check.due("at 0 the one that began", x.curve(3, 0, 0), 1);
    Check.due("the other not yet", x.curve(3, 1, 1), 0);
    Check.due("at its tick", x.curve(2, 1, 2), 1);
    Check.due("alone it reaches all", x.curve(2, 1, 200), 3);
    Check.due("the other alone", x.curve(1, 0, 200), 3);
    Check.due("of none", x.curve(0, 0, 200), 0);
    Check.due("one more in the first tick", x.curve(1, 0, 1), 2);
    Check.due("the seed stays", x.seed(0), 0);
    Check.due("the tick stays", x.count(4), 32);
    TwoRumours y = Check.with("person 0;person 0 silent;tie 0 1 1;", "say;say bars 0;say joins 0 1;");
    y.begin(0, 0);
    y.begin(1, 1);
    Check.due("both together: the join", y.curve(3, 2, 1), 1);
    Check.due("one alone: none", y.curve(1, 2, 200), 0);
    Check.due("bits of no saying", y.curve(8, 0, 201), Check.UNKNOWN);
    Check.due("bits below 0", y.curve(-1, 0, 0), Check.UNKNOWN);
    Check.due("no saying", y.curve(0, 3, 0), Check.UNKNOWN);
    Check.due("t 201", y.curve(7, 0, 201), Check.OUTSIDE);
    Check.due("t -1", y.curve(7, 0, -1), Check.OUTSIDE);
  }

  private static void freshAgain() {
    TwoRumours x = Check.with(CHAIN, "say;say bars 0;");
    x.begin(0, 0);
    x.begin(1, 1);
    x.keep(0);
    x.go(5);
    x.ask(0, 1, 2);
    int seed = x.seed(0);
    x.seed(seed);
    Check.due("some NOs", x.count(5) > 0 ? 1 : 0, 1);
    Check.due("the tick it was", x.fresh(), 5);
    Check.due("now 0", x.count(4), 0);
    Check.due("no NOs", x.count(5), 0);
    Check.due("nothing began", x.count(7), 0);
    Check.due("nobody holds", x.holders(0) | x.holders(1), 0);
    Check.due("nobody was told", x.holds(1, 0, 4), 0);
    Check.due("no 'I know'", x.holds(0, 0, 3), 0);
    Check.due("the seed stays", x.seed(seed), seed);
    Check.due("interviews stay", x.count(6), 1);
    Check.due("images stay", x.goBack(0), 1);
    Check.due("as kept", x.count(7), 2);
  }

  private static void refusals() {
    TwoRumours x = Check.with(TWO, "say;");
    Check.due("begin(2, 0)", x.begin(2, 0), Check.UNKNOWN);
    Check.due("begin(0, 1)", x.begin(0, 1), Check.UNKNOWN);
    Check.due("begin(-1, 0)", x.begin(-1, 0), Check.UNKNOWN);
    Check.due("go(0)", x.go(0), Check.OUTSIDE);
    Check.due("go(501)", x.go(501), Check.OUTSIDE);
    Check.due("go(500)", x.go(500), 0);
    Check.due("holds(0, 1, 9)", x.holds(0, 1, 9), Check.UNKNOWN);
    Check.due("holds(2, 0, 0)", x.holds(2, 0, 0), Check.UNKNOWN);
    Check.due("holds(0, 0, 5)", x.holds(0, 0, 5), Check.OUTSIDE);
    Check.due("holds(0, 0, -1)", x.holds(0, 0, -1), Check.OUTSIDE);
    Check.due("holders(1)", x.holders(1), Check.UNKNOWN);
    Check.due("holders(-1)", x.holders(-1), Check.UNKNOWN);
    Check.due("way(2, 0, 0)", x.way(2, 0, 0), Check.UNKNOWN);
    Check.due("way(0, -1, 0)", x.way(0, -1, 0), Check.UNKNOWN);
    Check.due("nine(0, 1, 0)", x.nine(0, 1, 0), Check.UNKNOWN);
    Check.due("nine(0, 0, 2)", x.nine(0, 0, 2), Check.OUTSIDE);
    Check.due("nine(0, 0, -1)", x.nine(0, 0, -1), Check.OUTSIDE);
    Check.due("below(2, 0)", x.below(2, 0), Check.UNKNOWN);
    Check.due("below(0, 1)", x.below(0, 1), Check.UNKNOWN);
    x.begin(0, 0);
    Check.due("way far", x.way(0, 0, 2147483647), Check.NONE);
    Check.due("way below", x.way(0, 0, -2), Check.NONE);
  }
}
