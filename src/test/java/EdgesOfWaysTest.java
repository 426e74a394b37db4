/** Promises 14 to 21: notices, who holds what and how, ways, nines, curves, fresh; an edge has its own method. */
public final class EdgesOfWaysTest {
  private static final int LOW = Integer.MIN_VALUE, HIGH = Integer.MAX_VALUE;
  private static final String DEAF = "person0;person0silent;tie0 1 1;";

  public static void main(String[] args) {
    noticeBelievedBy0To100();
    noticeAtPlaces0To3();
    noticeDrawsForEachThere();
    noticeToThoseWhoHoldIt();
    noticeTiresOfTheBarred();
    noticeRefusals();
    holdsOfNothing();
    holdsRefusals();
    holdersOfNoneAndAll();
    wayOfOne();
    wayOfAll();
    wayByANotice();
    wayOfTheLastSaying();
    wayOverAJoin();
    wayOverTwoJoins();
    wayRefusals();
    nineOfNobody();
    nineOfAll();
    nineWithoutThoseByItself();
    nineOfANotice();
    splitOfOne();
    splitWithTheFirst();
    nineRefusals();
    belowNobodyAndAll();
    belowRefusals();
    curveAtItsEnds();
    curveAtTheTickOfABeginning();
    curveOfASet();
    curveWithoutNotices();
    curveByTheSeedAndTheRules();
    curveOfOneWhoWasToldBefore();
    curveRefusals();
    freshAtTheBeginning();
    freshTakesAndLeaves();
    fiveHundredAndTwelveCalls();
    Check.end();
  }

  // "believed by b of a hundred ... a DRAW of 100 below b"; "b 0 .. 100"
  private static void noticeBelievedBy0To100() {
    int[][] cases = {{0, 0, 0}, {1, 0, 1}, {1, 1, 0}, {50, 49, 1}, {50, 50, 0}, {99, 98, 1}, {99, 99, 0}, {100, 99, 1}};
    for (int[] one : cases) {
      TwoRumours x = Check.with("person0at0;", "say;");
      x.seed(Check.seedFor(new int[] {100}, new int[] {one[1]}));
      Check.due("by " + one[0] + ", draw " + one[1], x.notice(0, 0, one[0]), one[2]);
      Check.due("it holds it", x.holders(0), one[2]);
    }
  }

  // "A NOTICE at a PLACE": PLACES 0 .. 3, "without one nowhere"
  private static void noticeAtPlaces0To3() {
    for (int place = 0; place < 4; place++) {
      TwoRumours x = Check.with("person0at3;person0at2;person0at1;person0at0;person0;", "say;");
      Check.due("at " + place, x.notice(place, 0, 100), 1);
      Check.due("the one there alone", x.holders(0), 1 << (3 - place));
    }
    TwoRumours none = Check.with("person0;person0;", "say;");
    none.seed(9);
    for (int place = 0; place < 4; place++) {
      Check.due("nobody is at " + place, none.notice(place, 0, 100), 0);
    }
    Check.due("no draw", Check.seedOf(none), 9);
    TwoRumours full = Check.with("person0at2;".repeat(24), "say;");
    Check.due("all are there", full.notice(2, 0, 100), 24);
    Check.due("all hold it", full.holders(0), 0xffffff);
  }

  // "each PERSON there in order: a DRAW"
  private static void noticeDrawsForEachThere() {
    TwoRumours x = Check.with("person0at0;person0;person0silent at0;person0at0;", "say;");
    x.begin(2, 0);
    int seed = Check.seedWithin(new int[] {100, 100, 100}, new int[] {50, 0, 0}, new int[] {99, 49, 49});
    x.seed(seed);
    Check.due("the first does not, the third does", x.notice(0, 0, 50), 1);
    Check.due("holders", x.holders(0), 12);
    Check.due("three draws, of who holds it, too", Check.seedOf(x), Check.seedBehind(seed, 3));
    Check.due("no tick goes by", x.count(4), 0);
  }

  // "it comes to HOLD it (if it does not)"
  private static void noticeToThoseWhoHoldIt() {
    TwoRumours x = Check.with("person0at0;person0silent at0;tie0 1 1;", "say;");
    x.rule(0, 1);
    x.begin(0, 0);
    x.begin(1, 0);
    x.go(1);
    Check.due("tired", x.holds(0, 0, 0), 2);
    Check.due("nobody came", x.notice(0, 0, 100), 0);
    Check.due("tired still", x.holds(0, 0, 0), 2);
    Check.due("from nobody still", x.holds(0, 0, 1), Check.NOBODY);
    Check.due("since 0 still", x.holds(0, 0, 2), 0);
    Check.due("'I know' still", x.holds(0, 0, 3), 1);
    Check.due("nobody told it", x.holds(0, 0, 4), 0);
  }

  // "and is TIRED then (who HELD it already, too) of all SAYINGS that it HOLDS and that are BARRED with it"
  private static void noticeTiresOfTheBarred() {
    TwoRumours x = Check.with("person0at0;person0at0;person0at1;", "say;say;say bars0;say bars2;say;say bars2;");
    for (int s : new int[] {0, 1, 3, 4, 5}) {
      x.begin(0, s);
      x.begin(2, s);
    }
    x.begin(1, 0);
    x.begin(1, 2);
    Check.due("one came", x.notice(0, 2, 100), 1);
    int[] due = {2, 1, 1, 2, 1, 2};
    for (int s = 0; s < 6; s++) {
      Check.due("of " + s, x.holds(0, s, 0), due[s]);
      Check.due("elsewhere " + s, x.holds(2, s, 0), s == 2 ? 0 : 1);
    }
    Check.due("who held it already: tired of 0", x.holds(1, 0, 0), 2);
    Check.due("and not of it", x.holds(1, 2, 0), 1);
    TwoRumours y = Check.with("person0at0;", "say;say bars0;");
    y.begin(0, 0);
    Check.due("not believed", y.notice(0, 1, 0), 0);
    Check.due("not tired", y.holds(0, 0, 0), 1);
  }

  // "notice ... UNKNOWN, OUTSIDE (b 0 .. 100)"
  private static void noticeRefusals() {
    TwoRumours x = Check.with("person0at0;person0at3;", "say;say;");
    x.seed(9);
    for (int place : new int[] {LOW, -1, 4, HIGH}) {
      Check.due("place " + place, x.notice(place, 0, 50), Check.UNKNOWN);
      Check.due("UNKNOWN ahead of OUTSIDE", x.notice(place, 0, 101), Check.UNKNOWN);
    }
    for (int s : new int[] {LOW, -1, 2, HIGH}) {
      Check.due("saying " + s, x.notice(0, s, 50), Check.UNKNOWN);
      Check.due("UNKNOWN ahead of OUTSIDE", x.notice(0, s, -1), Check.UNKNOWN);
    }
    for (int b : new int[] {LOW, -1, 101, HIGH}) {
      Check.due("b " + b, x.notice(0, 0, b), Check.OUTSIDE);
    }
    Check.due("no draw", Check.seedOf(x), 9);
    Check.due("nobody holds it", x.holders(0), 0);
  }

  // "0 not", "NONE: it does not HOLD it", "(NONE)"
  private static void holdsOfNothing() {
    TwoRumours x = Check.with("person0;".repeat(23) + "person0at3;", "say;say;say;say;say;say;");
    int[] due = {0, Check.NONE, Check.NONE, 0, 0};
    for (int what = 0; what < 5; what++) {
      Check.due("the first, " + what, x.holds(0, 0, what), due[what]);
      Check.due("the last, " + what, x.holds(23, 5, what), due[what]);
    }
    x.go(500);
    x.notice(3, 5, 100);
    int[] last = {1, 24, 500, 0, 0};
    for (int what = 0; what < 5; what++) {
      Check.due("by a notice, " + what, x.holds(23, 5, what), last[what]);
    }
    x.begin(0, 0);
    int[] first = {1, Check.NOBODY, 500, 0, 0};
    for (int what = 0; what < 5; what++) {
      Check.due("began, " + what, x.holds(0, 0, what), first[what]);
    }
    x.fresh();
    for (int what = 0; what < 5; what++) {
      Check.due("fresh, " + what, x.holds(23, 5, what), due[what]);
    }
  }

  // "holds ... UNKNOWN, OUTSIDE"
  private static void holdsRefusals() {
    TwoRumours x = Check.with("person0;".repeat(24), "say;say;say;say;say;say;");
    for (int p : new int[] {LOW, -1, 24, HIGH}) {
      Check.due("person " + p, x.holds(p, 0, 0), Check.UNKNOWN);
      Check.due("UNKNOWN ahead of OUTSIDE", x.holds(p, 0, 5), Check.UNKNOWN);
    }
    for (int s : new int[] {LOW, -1, 6, HIGH}) {
      Check.due("saying " + s, x.holds(0, s, 0), Check.UNKNOWN);
      Check.due("UNKNOWN ahead of OUTSIDE", x.holds(23, s, -1), Check.UNKNOWN);
    }
    for (int what : new int[] {LOW, -1, 5, HIGH}) {
      Check.due("what " + what, x.holds(23, 5, what), Check.OUTSIDE);
    }
  }

  // "Those who HOLD a SAYING: the SET. UNKNOWN"
  private static void holdersOfNoneAndAll() {
    TwoRumours x = Check.with("person0at0;".repeat(24), "say;say;say;say;say;say;");
    Check.due("none", x.holders(5), 0);
    x.begin(23, 5);
    Check.due("the last", x.holders(5), 1 << 23);
    x.notice(0, 5, 100);
    Check.due("all", x.holders(5), 0xffffff);
    Check.due("none of another", x.holders(4), 0);
    for (int s : new int[] {LOW, -1, 6, HIGH}) {
      Check.due("saying " + s, x.holders(s), Check.UNKNOWN);
    }
  }

  // "(0: itself); i = NONE: how many; NONE: not so many, or it does not HOLD it"
  private static void wayOfOne() {
    TwoRumours x = Check.with("person0;person0;", "say;say;");
    x.begin(0, 0);
    Check.due("how many", x.way(0, 0, -1), 1);
    Check.due("itself", x.way(0, 0, 0), 0);
    for (int i : new int[] {LOW, -2, 1, 2, 24, 144, HIGH}) {
      Check.due("not so many: " + i, x.way(0, 0, i), Check.NONE);
    }
    for (int i : new int[] {LOW, -1, 0, 1, HIGH}) {
      Check.due("does not hold it: " + i, x.way(1, 0, i), Check.NONE);
      Check.due("nor the other: " + i, x.way(0, 1, i), Check.NONE);
    }
  }

  /** All of 24 in a row, each heeds all: whoever holds it has it from its neighbour. */
  private static TwoRumours row(String sayings) {
    StringBuilder text = new StringBuilder("person100;".repeat(24));
    for (int p = 0; p < 23; p++) {
      text.append("tie").append(p).append(' ').append(p + 1).append(" 1;");
    }
    TwoRumours x = Check.with(text.toString(), sayings);
    x.rule(0, 20);
    return x;
  }

  private static void wayOfAll() {
    TwoRumours x = row("say;");
    x.begin(0, 0);
    Check.due("23 came", x.go(500), 23);
    Check.due("how many", x.way(23, 0, -1), 24);
    for (int i = 0; i < 24; i++) {
      Check.due("the way at " + i, x.way(23, 0, i), 23 - i);
    }
    Check.due("not so many", x.way(23, 0, 24), Check.NONE);
    Check.due("all others by 0", x.below(0, 0), 0xfffffe);
    Check.due("the last by 22", x.below(22, 0), 1 << 23);
    Check.due("nobody by the last", x.below(23, 0), 0);
  }

  // "by a NOTICE (24)": its WAY is itself alone
  private static void wayByANotice() {
    TwoRumours x = Check.with("person0at0;person100;tie0 1 1;", "say;");
    x.notice(0, 0, 100);
    x.go(1);
    Check.due("from 24", x.holds(0, 0, 1), 24);
    Check.due("one", x.way(0, 0, -1), 1);
    Check.due("itself", x.way(0, 0, 0), 0);
    Check.due("no further", x.way(0, 0, 1), Check.NONE);
    Check.due("two", x.way(1, 0, -1), 2);
    Check.due("its root", x.way(1, 0, 1), 0);
  }

  // "FROM whom that one has what it told it then (a JOIN came of another SAYING)"
  private static void wayOverAJoin() {
    // 2 has 0 from 3; 2 tells 1, which holds the barred 1: the join came of what 2 has from 3
    TwoRumours x = Check.with("person0;person0silent;person100;person0;tie2 3 1;tie1 2 1;", "say;say bars0;say joins1 0;");
    x.begin(3, 0);
    x.begin(1, 1);
    x.rule(0, 20);
    for (int k = 0; k < 40 && x.holds(1, 2, 0) == 0; k++) {
      x.go(1);
    }
    Check.due("the join from 2", x.holds(1, 2, 1), 2);
    Check.due("2 does not hold the join", x.holds(2, 2, 0), 0);
    int[] way = {3, 1, 2, 3, Check.NONE};
    for (int i = -1; i < 4; i++) {
      Check.due("way at " + i, x.way(1, 2, i), way[i + 1]);
    }
    Check.due("by 3", x.below(3, 2), 2);
    Check.due("by 2", x.below(2, 2), 2);
  }

  private static void wayOfTheLastSaying() {
    TwoRumours x = row("say;".repeat(6));
    x.begin(23, 5);
    x.begin(11, 0);
    x.go(500);
    Check.due("all hold it", x.holders(5), 0xffffff);
    Check.due("how many", x.way(0, 5, -1), 24);
    for (int i = 0; i < 24; i++) {
      Check.due("the way at " + i, x.way(0, 5, i), i);
    }
    Check.due("from its neighbour", x.holds(0, 5, 1), 1);
    Check.due("all others by the last", x.below(23, 5), 0x7fffff);
    Check.due("the first by the second", x.below(1, 5), 1);
    Check.due("worth one", x.nine(0, 5, 0), 1);
    Check.due("from one", x.nine(0, 5, 1), 1);
    Check.due("the way of another saying", x.way(0, 0, -1), 12);
  }

  // the JOIN 4 came of 3, which is the JOIN of 0 and 1: its WAY goes on with 3, then with 1
  private static void wayOverTwoJoins() {
    TwoRumours x = Check.with("person0;person0;person0silent;tie0 1 1;tie1 2 9;", "say;say bars0;say;say bars2joins0 1;say joins3 2;");
    x.rule(0, 20);
    x.begin(0, 1);
    x.begin(1, 0);
    x.begin(2, 2);
    for (int k = 0; k < 40 && x.holds(2, 4, 0) == 0; k++) {
      x.go(1);
    }
    Check.due("1 has 3 from 0", x.holds(1, 3, 1), 0);
    Check.due("2 has 4 from 1", x.holds(2, 4, 1), 1);
    int[] way = {3, 2, 1, 0, Check.NONE};
    for (int i = -1; i < 4; i++) {
      Check.due("way at " + i, x.way(2, 4, i), way[i + 1]);
    }
    Check.due("its own 2", x.way(2, 2, -1), 1);
    Check.due("0 is on it", x.below(0, 4), 4);
  }

  // "way ... UNKNOWN"
  private static void wayRefusals() {
    TwoRumours x = Check.with("person0;".repeat(24), "say;say;say;say;say;say;");
    for (int p : new int[] {LOW, -1, 24, HIGH}) {
      Check.due("person " + p, x.way(p, 0, 0), Check.UNKNOWN);
    }
    for (int s : new int[] {LOW, -1, 6, HIGH}) {
      Check.due("saying " + s, x.way(0, s, -1), Check.UNKNOWN);
    }
    Check.due("the last of both", x.way(23, 5, -1), Check.NONE);
  }

  private static void nineOfNobody() {
    TwoRumours x = Check.with(DEAF, "say;");
    Check.due("nobody told it: NINE", x.nine(1, 0, 0), 0);
    Check.due("nobody told it: SPLIT", x.nine(1, 0, 1), 0);
    x.begin(1, 0);
    Check.due("it began: NINE", x.nine(1, 0, 0), 0);
  }

  // "how many unlike ROOTS": all others are
  private static void nineOfAll() {
    StringBuilder text = new StringBuilder("person0;".repeat(23) + "person0silent;");
    for (int p = 0; p < 23; p++) {
      text.append("tie").append(p).append(" 23 1;");
    }
    TwoRumours x = Check.with(text.toString(), "say;");
    for (int p = 0; p < 23; p++) {
      x.begin(p, 0);
    }
    x.go(1);
    Check.due("told by all", x.holds(23, 0, 4), 0x7fffff);
    Check.due("23 roots", x.nine(23, 0, 0), 23);
    Check.due("from nobody is not from a person", x.nine(23, 0, 1), 0);
  }

  // "(but such as have the PERSON itself on their WAY)"
  private static void nineWithoutThoseByItself() {
    TwoRumours x = Check.with("person100;person100;person0;tie0 1 1;", "say;");
    x.begin(0, 0);
    x.go(2);
    Check.due("1 told it back", x.holds(0, 0, 4), 2);
    Check.due("worth nothing", x.nine(0, 0, 0), 0);
    Check.due("nor split", x.nine(0, 0, 1), 0);
    Check.due("0 told 1", x.holds(1, 0, 4), 1);
    Check.due("worth one", x.nine(1, 0, 0), 1);
  }

  private static void nineOfANotice() {
    TwoRumours x = Check.with("person0at0;person0at0;person0silent;tie0 2 1;tie1 2 1;", "say;");
    x.notice(0, 0, 100);
    x.go(1);
    Check.due("each is a root", x.nine(2, 0, 0), 2);
    Check.due("a notice is not a person", x.nine(2, 0, 1), 0);
  }

  // "SPLIT: the greatest number of these that have it FROM one and the same PERSON"
  private static void splitOfOne() {
    // 0 tells 1 to 4 (all have it from 0), 5 tells 6; all of them tell 7, who heeds nobody
    String town = "person0;" + "person100;".repeat(4) + "person0;person100;person0silent;"
        + "tie0 1 1;tie0 2 1;tie0 3 1;tie0 4 1;tie5 6 1;tie1 7 1;tie2 7 1;tie3 7 1;tie4 7 1;tie6 7 1;";
    TwoRumours x = Check.with(town, "say;");
    boolean all = false;
    for (int seed = 0; seed < 200 && !all; seed++) {
      x.fresh();
      x.rule(0, 20);
      x.seed(seed);
      x.begin(0, 0);
      x.begin(5, 0);
      x.go(200);
      all = x.holds(7, 0, 4) == 0b1011110;
    }
    Check.due("told by 1, 2, 3, 4, 6", x.holds(7, 0, 4), 0b1011110);
    Check.due("of two roots", x.nine(7, 0, 0), 2);
    Check.due("four have it from 0", x.nine(7, 0, 1), 4);
    Check.due("who told 6 has it of its own", x.nine(6, 0, 1), 0);
    Check.due("of one root", x.nine(6, 0, 0), 1);
  }

  // 0 and 1 have it from 2, and tell 3: the last of three SAYINGS
  private static void splitWithTheFirst() {
    TwoRumours x = Check.with("person100;person100;person0;person0silent;tie2 0 1;tie2 1 1;tie0 3 9;tie1 3 9;", "say;say;say;");
    boolean both = false;
    for (int seed = 0; seed < 200 && !both; seed++) {
      x.fresh();
      x.rule(0, 20);
      x.seed(seed);
      x.begin(2, 2);
      x.go(9);
      both = x.holds(3, 2, 4) == 3;
    }
    Check.due("told by both", x.holds(3, 2, 4), 3);
    Check.due("two of one", x.nine(3, 2, 1), 2);
    Check.due("worth one", x.nine(3, 2, 0), 1);
    Check.due("both by 2", x.below(2, 2), 3);
    Check.due("of another saying", x.nine(3, 1, 1), 0);
  }

  // "nine ... UNKNOWN, OUTSIDE"
  private static void nineRefusals() {
    TwoRumours x = Check.with("person0;".repeat(24), "say;say;say;say;say;say;");
    for (int p : new int[] {LOW, -1, 24, HIGH}) {
      Check.due("person " + p, x.nine(p, 0, 0), Check.UNKNOWN);
      Check.due("UNKNOWN ahead of OUTSIDE", x.nine(p, 0, 2), Check.UNKNOWN);
    }
    for (int s : new int[] {LOW, -1, 6, HIGH}) {
      Check.due("saying " + s, x.nine(0, s, 1), Check.UNKNOWN);
      Check.due("UNKNOWN ahead of OUTSIDE", x.nine(23, s, -1), Check.UNKNOWN);
    }
    for (int what : new int[] {LOW, -1, 2, HIGH}) {
      Check.due("what " + what, x.nine(23, 5, what), Check.OUTSIDE);
    }
  }

  // "(itself not): the SET of those who HOLD it"
  private static void belowNobodyAndAll() {
    TwoRumours x = Check.with("person100;person100;tie0 1 1;", "say;say;");
    Check.due("nobody holds it", x.below(0, 0), 0);
    x.begin(0, 0);
    Check.due("itself not", x.below(0, 0), 0);
    x.go(1);
    Check.due("the other", x.below(0, 0), 2);
    Check.due("by the last nobody", x.below(1, 0), 0);
    Check.due("of another saying", x.below(0, 1), 0);
  }

  // "below ... UNKNOWN"
  private static void belowRefusals() {
    TwoRumours x = Check.with("person0;".repeat(24), "say;say;say;say;say;say;");
    for (int p : new int[] {LOW, -1, 24, HIGH}) {
      Check.due("person " + p, x.below(p, 0), Check.UNKNOWN);
    }
    for (int s : new int[] {LOW, -1, 6, HIGH}) {
      Check.due("saying " + s, x.below(0, s), Check.UNKNOWN);
    }
    Check.due("the last of both", x.below(23, 5), 0);
  }

  // "t TICKS (0 .. 200) behind THE TICK 0"
  private static void curveAtItsEnds() {
    TwoRumours x = row("say;say;");
    x.begin(0, 0);
    x.go(500);
    x.seed(77);
    Check.due("at 0", x.curve(3, 0, 0), 1);
    Check.due("at 1", x.curve(3, 0, 1), 2);
    int far = x.curve(3, 0, 200);
    x.fresh();
    x.begin(0, 0);
    x.go(200);
    Check.due("at 200 as in 200 ticks", far, Integer.bitCount(x.holders(0)));
    Check.due("none of the other", x.curve(3, 1, 200), 0);
  }

  // "(in order, at their TICKS, ahead of that TICK's telling; at TICK t too, not later)"
  private static void curveAtTheTickOfABeginning() {
    TwoRumours x = Check.with("person100;person100;tie0 1 1;", "say;");
    x.go(200);
    x.begin(0, 0);
    x.go(1);
    Check.due("one tick earlier", x.curve(1, 0, 199), 0);
    Check.due("at its tick", x.curve(1, 0, 200), 1);
    x.fresh();
    x.go(4);
    x.begin(0, 0);
    Check.due("earlier", x.curve(1, 0, 3), 0);
    Check.due("at its tick", x.curve(1, 0, 4), 1);
    Check.due("it was told on in that tick", x.curve(1, 0, 5), 2);
    x.fresh();
    x.go(201);
    x.begin(0, 0);
    Check.due("what began later than 200 is never seen", x.curve(1, 0, 200), 0);
  }

  // "of SAYINGS of a told SET alone"
  private static void curveOfASet() {
    TwoRumours x = Check.with(DEAF, "say;say bars0;say joins0 1;say;say;say;");
    x.begin(0, 0);
    x.begin(1, 1);
    x.begin(0, 5);
    Check.due("of none", x.curve(0, 0, 0), 0);
    Check.due("the first alone", x.curve(1, 0, 0), 1);
    Check.due("the others not", x.curve(1, 1, 0), 0);
    Check.due("the last alone", x.curve(32, 5, 0), 1);
    Check.due("all", x.curve(63, 5, 0), 1);
    Check.due("both make a join", x.curve(3, 2, 1), 1);
    Check.due("one does not", x.curve(2, 2, 1), 0);
    Check.due("the join's own bit makes nothing", x.curve(4, 2, 200), 0);
  }

  private static void curveWithoutNotices() {
    TwoRumours x = Check.with("person0at0;person0;", "say;");
    x.notice(0, 0, 100);
    x.begin(1, 0);
    Check.due("two hold it", x.holders(0), 3);
    Check.due("a notice did not begin", x.curve(1, 0, 0), 1);
  }

  // "THE SEED as it is now"
  private static void curveByTheSeedAndTheRules() {
    TwoRumours x = Check.with("person0;person50silent;tie0 1 1;", "say asks1;say answers1;");
    x.begin(0, 1);
    x.go(50);
    int heeded = Check.seedFor(new int[] {1, 100}, new int[] {0, 49});
    int not = Check.seedFor(new int[] {1, 100}, new int[] {0, 50});
    x.seed(heeded);
    Check.due("heeded by this seed", x.curve(2, 1, 1), 2);
    Check.due("the seed stays", Check.seedOf(x), heeded);
    x.seed(not);
    Check.due("not by that", x.curve(2, 1, 1), 1);
    Check.due("the seed stays", Check.seedOf(x), not);
    Check.due("the tick stays", x.count(4), 50);
    TwoRumours y = Check.with("person0;person0silent;person100silent;tie0 1 9;tie0 2 1;", "say;");
    y.begin(0, 0);
    y.begin(1, 0);
    int[] of = {10, 10};
    y.seed(Check.seedWithin(of, new int[] {0, 9}, new int[] {8, 9}));
    Check.due("'I know' once, then 2 is told", y.curve(1, 0, 2), 3);
    y.rule(0, 1);
    Check.due("by another rule it is tired", y.curve(1, 0, 2), 2);
  }

  // who HOLDS it cannot BEGIN: what it has by then goes on
  private static void curveOfOneWhoWasToldBefore() {
    TwoRumours x = Check.with("person100;person0silent;person50;tie0 1 1;tie0 2 1;", "say;");
    x.begin(0, 0);
    int away = Check.seedFor(new int[] {2}, new int[] {0});
    x.seed(away);
    x.go(1);
    Check.due("2 was not told", x.holders(0), 1);
    x.begin(2, 0);
    int[] of = {2, 100};
    x.seed(Check.seedWithin(of, new int[] {1, 0}, new int[] {1, 49}));
    Check.due("by this seed it is told ahead of its beginning", x.curve(1, 0, 1), 2);
  }

  // "curve ... UNKNOWN, OUTSIDE"; UNKNOWN: "bits of such"
  private static void curveRefusals() {
    TwoRumours x = Check.with(DEAF, "say;say;say;say;say;say;");
    Check.due("six bits", x.curve(63, 5, 200), 0);
    for (int set : new int[] {LOW, -1, 64, 65, 1 << 30, HIGH}) {
      Check.due("set " + set, x.curve(set, 0, 0), Check.UNKNOWN);
      Check.due("UNKNOWN ahead of OUTSIDE", x.curve(set, 0, 201), Check.UNKNOWN);
    }
    for (int s : new int[] {LOW, -1, 6, HIGH}) {
      Check.due("saying " + s, x.curve(0, s, 0), Check.UNKNOWN);
      Check.due("UNKNOWN ahead of OUTSIDE", x.curve(0, s, -1), Check.UNKNOWN);
    }
    for (int t : new int[] {LOW, -1, 201, HIGH}) {
      Check.due("t " + t, x.curve(63, 5, t), Check.OUTSIDE);
    }
    TwoRumours two = Check.with(DEAF, "say;say;");
    Check.due("the last bit", two.curve(3, 1, 0), 0);
    Check.due("one bit more", two.curve(4, 1, 0), Check.UNKNOWN);
    TwoRumours none = Check.with(DEAF, "");
    Check.due("no saying", none.curve(0, 0, 0), Check.UNKNOWN);
  }

  private static void freshAtTheBeginning() {
    TwoRumours x = new TwoRumours();
    Check.due("at 0", x.fresh(), 0);
    x.go(500);
    Check.due("at 500", x.fresh(), 500);
    Check.due("again", x.fresh(), 0);
  }

  // "All is as before anything BEGAN (THE TICK 0, no NOs; THE SEED stays)"
  private static void freshTakesAndLeaves() {
    TwoRumours x = Check.with(DEAF, "say;say bars0;");
    x.seed(77);
    x.rule(0, 9);
    x.begin(0, 0);
    x.begin(1, 1);
    x.go(3);
    x.keep(1);
    x.ask(0, 1, 4);
    x.report(0, 3);
    Check.feed(x, "abc");
    int seed = Check.seedOf(x);
    Check.due("fresh", x.fresh(), 3);
    int[] due = {2, 1, 2, 3, 0, 0, 1, 0};
    for (int what = 0; what < 8; what++) {
      Check.due("count " + what, x.count(what), due[what]);
    }
    Check.due("nobody holds 0", x.holders(0), 0);
    Check.due("nobody holds 1", x.holders(1), 0);
    Check.due("nobody was told", x.holds(1, 0, 4), 0);
    Check.due("the seed stays", Check.seedOf(x), seed);
    Check.due("the rule stays", x.rule(0, 3), 9);
    Check.due("the report stays", x.silence(), 1);
    Check.due("nothing began: no curve", x.curve(3, 0, 9), 0);
    Check.due("it can begin again", x.begin(0, 0), 1);
    x.go(1);
    Check.due("told anew, no bar of before", x.count(5), 0);
    Check.due("the image stays", x.goBack(1), 1);
    Check.due("with its NOs", x.count(5), 3);
  }

  // "An object is used for at most 512 calls after it has been made"
  private static void fiveHundredAndTwelveCalls() {
    TwoRumours x = new TwoRumours();
    for (int k = 1; k < 512; k++) {
      x.go(500);
    }
    Check.due("the 512th call", x.count(4), 511 * 500);
    TwoRumours y = Check.with(DEAF, "say;say bars0;");
    y.begin(0, 0);
    y.begin(1, 1);
    for (int k = 1; k <= 490; k++) {
      y.go(500);
    }
    Check.due("NOs", y.count(5), 490 * 500);
  }
}
