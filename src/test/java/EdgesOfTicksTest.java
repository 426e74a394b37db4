/** Promises 12 to 21 and part 2 of the terms: each sentence that names an edge has a method of its own. */
public final class EdgesOfTicksTest {
  private static final int LOW = Integer.MIN_VALUE, HIGH = Integer.MAX_VALUE;
  /** 0 tells 1, who says nothing: one draw a tick to choose, one more if 1 heeds. */
  private static final String DEAF = "person0;person0silent;tie0 1 1;";

  public static void main(String[] args) {
    beginNotTwice();
    beginFullAt40();
    beginCountsHolders();
    goOneTo500();
    goCountsEachComing();
    goInAnEmptyTown();
    tellersAreSettledFirst();
    tellersHaveATie();
    tellersAreNotSilent();
    tellersTellSomething();
    drawLeadsToTheFirstAbove();
    latestByTickThenNumber();
    latestOfTheLastPerson();
    tiredOfTheLatestTellsTheOther();
    knowsAtOne();
    knowsAtTwenty();
    knowsAtALowerRule();
    knowsIfTired();
    knowsAheadOfNo();
    firstBarredAlone();
    joinOnlyIfNotHeld();
    noWithoutDraw();
    barredThoughTired();
    heedZeroAndHundred();
    heedJustBelow();
    moreHeedAtMostHundred();
    rulesAtFirst();
    moreHeedForWhatIsHeld();
    moreHeedThoughTired();
    toldByWhateverCame();
    drawsFromTheSeed();
    Check.end();
  }

  // "begin ... UNKNOWN, NOT: it HOLDS it"
  private static void beginNotTwice() {
    TwoRumours x = Check.with("person100at0;person100;person0at0;tie0 1 1;", "say;say bars0;");
    Check.due("begins", x.begin(0, 0), 1);
    Check.due("it began", x.begin(0, 0), Check.NOT);
    x.go(1);
    Check.due("it was told", x.begin(1, 0), Check.NOT);
    x.notice(0, 0, 100);
    Check.due("by a notice", x.begin(2, 0), Check.NOT);
    x.notice(0, 1, 100);
    Check.due("tired", x.holds(2, 0, 0), 2);
    Check.due("it holds it, tired", x.begin(2, 0), Check.NOT);
    Check.due("one began", x.count(7), 1);
    Check.due("the one that is barred may begin", x.begin(1, 1), 3);
    for (int p : new int[] {LOW, -1, 3, HIGH}) {
      Check.due("person " + p, x.begin(p, 0), Check.UNKNOWN);
    }
    for (int s : new int[] {LOW, -1, 2, HIGH}) {
      Check.due("saying " + s, x.begin(0, s), Check.UNKNOWN);
    }
    Check.due("two began", x.count(7), 2);
  }

  // "FULL (40 that BEGAN)"
  private static void beginFullAt40() {
    TwoRumours x = Check.with("person0;".repeat(24), "say;say;");
    for (int k = 0; k < 39; k++) {
      x.begin(k % 24, k / 24);
    }
    x.keep(0);
    Check.due("the 40th", x.begin(15, 1), 16);
    Check.due("40", x.count(7), 40);
    Check.due("the 41st", x.begin(16, 1), Check.FULL);
    Check.due("NOT ahead of FULL", x.begin(15, 1), Check.NOT);
    Check.due("UNKNOWN ahead of FULL", x.begin(24, 1), Check.UNKNOWN);
    Check.due("UNKNOWN ahead of FULL", x.begin(16, 2), Check.UNKNOWN);
    Check.due("40 stay", x.count(7), 40);
    Check.due("the refused one does not hold it", x.holds(16, 1, 0), 0);
    x.go(7);
    Check.due("later, too", x.begin(16, 1), Check.FULL);
    x.goBack(0);
    Check.due("39 again", x.count(7), 39);
    Check.due("one fits", x.begin(23, 1), 16);
    Check.due("one more does not", x.begin(22, 1), Check.FULL);
    x.fresh();
    Check.due("all fit again", x.begin(16, 1), 1);
  }

  // "how many HOLD it"
  private static void beginCountsHolders() {
    TwoRumours x = Check.with("person0at0;".repeat(24), "say;say;");
    x.notice(0, 0, 100);
    Check.due("all hold the other", x.begin(7, 1), 1);
    x.fresh();
    for (int p = 0; p < 24; p++) {
      Check.due("begin " + p, x.begin(p, 0), p + 1);
    }
    Check.due("the set of all", x.holders(0), 0xffffff);
  }

  // "n TICKS (1 .. 500) go by ... OUTSIDE"
  private static void goOneTo500() {
    TwoRumours x = Check.with(DEAF, "say;");
    for (int n : new int[] {LOW, -1, 0, 501, HIGH}) {
      Check.due("go " + n, x.go(n), Check.OUTSIDE);
      Check.due("no tick went by", x.count(4), 0);
    }
    Check.due("go 1", x.go(1), 0);
    Check.due("one", x.count(4), 1);
    Check.due("go 500", x.go(500), 0);
    Check.due("501", x.count(4), 501);
  }

  // "how many came to HOLD something"
  private static void goCountsEachComing() {
    TwoRumours x = Check.with("person0;person100silent;tie0 1 1;", "say;say;");
    x.begin(0, 0);
    Check.due("one came to hold 0", x.go(3), 1);
    x.begin(0, 1);
    x.rule(0, 1);
    Check.due("and 1", x.go(1), 1);
    x.fresh();
    x.begin(0, 0);
    x.begin(0, 1);
    Check.due("in one go both: tired of 1 it tells 0", x.go(4), 2);
    Check.due("no more", x.go(4), 0);
  }

  private static void goInAnEmptyTown() {
    TwoRumours x = new TwoRumours();
    x.seed(5);
    Check.due("nobody, nothing", x.go(500), 0);
    Check.due("ticks all the same", x.count(4), 500);
    Check.due("no draw", x.seed(0), 5);
  }

  // "who may tell is settled at its beginning"
  private static void tellersAreSettledFirst() {
    TwoRumours x = Check.with("person100;person100;person100;tie0 1 1;tie1 2 1;", "say;");
    x.begin(0, 0);
    x.seed(9);
    Check.due("1 came to hold it", x.go(1), 1);
    Check.due("1 did not tell yet", x.holders(0), 3);
    Check.due("two draws: one teller, one that heeds", Check.seedOf(x), Check.seedBehind(9, 2));
    Check.due("nobody told 2", x.holds(2, 0, 4), 0);
  }

  // "PERSONS with a TIE"
  private static void tellersHaveATie() {
    TwoRumours x = Check.with("person100;person100;person100;tie1 2 1;", "say;");
    x.begin(0, 0);
    x.seed(9);
    Check.due("nobody to tell", x.go(9), 0);
    Check.due("no draw", Check.seedOf(x), 9);
    Check.due("it goes on telling it", x.holds(0, 0, 0), 1);
  }

  // "not silent"
  private static void tellersAreNotSilent() {
    TwoRumours x = Check.with("person100silent;person100;tie0 1 1;", "say;");
    x.begin(0, 0);
    x.seed(9);
    Check.due("it says nothing", x.go(9), 0);
    Check.due("no draw", Check.seedOf(x), 9);
    x.fresh();
    x.begin(1, 0);
    Check.due("but it is told", x.go(1), 1);
    Check.due("holders", x.holders(0), 3);
  }

  // "that TELL some SAYING"
  private static void tellersTellSomething() {
    TwoRumours x = Check.with(DEAF, "say;say;");
    x.seed(9);
    x.go(5);
    Check.due("nobody holds anything: no draw", Check.seedOf(x), 9);
    x.rule(0, 1);
    x.begin(0, 0);
    x.begin(1, 0);
    x.go(1);
    Check.due("one draw", Check.seedOf(x), Check.seedBehind(9, 1));
    Check.due("tired", x.holds(0, 0, 0), 2);
    x.go(5);
    Check.due("tired of all: no draw", Check.seedOf(x), Check.seedBehind(9, 1));
    x.begin(0, 1);
    x.go(1);
    Check.due("of something new: two draws", Check.seedOf(x), Check.seedBehind(9, 3));
  }

  // "the first of them (in order of TIES) with which strengths so far are above it"
  private static void drawLeadsToTheFirstAbove() {
    int[] due = {2, 3, 3, 3, 3, 3, 3, 3, 3, 3, 1, 1};
    for (int draw = 0; draw < 12; draw++) {
      TwoRumours x = Check.with("person100;person100;person100;person100;tie2 0 1;tie1 3 5;tie0 3 9;tie1 0 2;", "say;");
      x.begin(0, 0);
      x.seed(Check.seedFor(new int[] {12}, new int[] {draw}));
      Check.due("draw " + draw + " of 12", x.go(1), 1);
      Check.due("leads to " + due[draw], x.holders(0), 1 | 1 << due[draw]);
    }
  }

  // "which it came to HOLD latest (by TICK, of like ones the greatest number)"
  private static void latestByTickThenNumber() {
    TwoRumours x = Check.with(DEAF, "say;say;say;");
    x.begin(0, 2);
    x.begin(0, 0);
    x.go(1);
    Check.due("of like ones the greatest", x.holds(1, 2, 4), 1);
    Check.due("not the one that came behind", x.holds(1, 0, 4), 0);
    x.begin(0, 1);
    x.go(1);
    Check.due("the latest by tick", x.holds(1, 1, 4), 1);
    Check.due("not the other", x.holds(1, 0, 4), 0);
  }

  // the last of 24 PERSONS, the last of six SAYINGS
  private static void latestOfTheLastPerson() {
    TwoRumours x = Check.with("person0;".repeat(22) + "person0silent;person0;tie23 22 1;", "say;".repeat(6));
    x.begin(23, 5);
    x.go(1);
    Check.due("the one there is", x.holds(22, 5, 4), 1 << 23);
    x.begin(23, 3);
    x.begin(0, 4);
    x.go(1);
    Check.due("the latest by tick", x.holds(22, 3, 4), 1 << 23);
    x.begin(23, 4);
    x.begin(22, 4);
    x.go(1);
    Check.due("I know", x.holds(23, 4, 3), 1);
    Check.due("of the one alone", x.holds(23, 3, 3) + x.holds(23, 5, 3), 0);
    Check.due("what nobody told it", x.holds(22, 0, 4) + x.holds(22, 1, 4) + x.holds(22, 2, 4), 0);
  }

  private static void tiredOfTheLatestTellsTheOther() {
    TwoRumours x = Check.with(DEAF, "say;say;");
    x.begin(0, 0);
    x.go(1);
    x.begin(0, 1);
    x.begin(1, 1);
    x.rule(0, 1);
    x.go(1);
    Check.due("tired of the latest", x.holds(0, 1, 0), 2);
    x.begin(1, 0);
    x.go(1);
    Check.due("then the other", x.holds(0, 0, 3), 1);
    Check.due("the tired one is told no more", x.holds(0, 1, 3), 1);
  }

  private static TwoRumours bothHold(int rule) {
    TwoRumours x = Check.with(DEAF, "say;");
    x.rule(0, rule);
    x.begin(0, 0);
    x.begin(1, 0);
    return x;
  }

  // "at so many as RULES tell one is TIRED of it": the least
  private static void knowsAtOne() {
    TwoRumours x = bothHold(1);
    x.go(1);
    Check.due("told once", x.holds(0, 0, 3), 1);
    Check.due("tired", x.holds(0, 0, 0), 2);
    x.go(9);
    Check.due("no more", x.holds(0, 0, 3), 1);
    Check.due("it still holds it", x.holders(0), 3);
    Check.due("from nobody", x.holds(0, 0, 1), Check.NOBODY);
    Check.due("since 0", x.holds(0, 0, 2), 0);
  }

  // the greatest
  private static void knowsAtTwenty() {
    TwoRumours x = bothHold(20);
    x.go(19);
    Check.due("19 times", x.holds(0, 0, 3), 19);
    Check.due("tells it", x.holds(0, 0, 0), 1);
    x.go(1);
    Check.due("20 times", x.holds(0, 0, 3), 20);
    Check.due("tired", x.holds(0, 0, 0), 2);
  }

  private static void knowsAtALowerRule() {
    TwoRumours x = bothHold(20);
    x.go(10);
    x.rule(0, 4);
    Check.due("the rule alone tires nobody", x.holds(0, 0, 0), 1);
    x.go(1);
    Check.due("eleven are more than so many", x.holds(0, 0, 0), 2);
    x.rule(0, 20);
    x.go(5);
    Check.due("tired stays tired", x.holds(0, 0, 0), 2);
    Check.due("eleven", x.holds(0, 0, 3), 11);
  }

  // "If B HOLDS it": whether B TELLS it or is TIRED
  private static void knowsIfTired() {
    TwoRumours x = Check.with("person0;person0;tie0 1 1;", "say;");
    x.rule(0, 1);
    x.begin(0, 0);
    x.begin(1, 0);
    x.go(1);
    Check.due("0 is tired first", x.holds(0, 0, 0), 2);
    Check.due("the tired one says 'I know', too", x.holds(1, 0, 3), 1);
    Check.due("so 1 is tired", x.holds(1, 0, 0), 2);
  }

  // "If B HOLDS it ... Else, if B HOLDS a SAYING that is BARRED with it"
  private static void knowsAheadOfNo() {
    TwoRumours x = Check.with(DEAF, "say;say bars0;");
    x.begin(0, 0);
    x.begin(1, 1);
    x.begin(1, 0);
    x.go(1);
    Check.due("I know", x.holds(0, 0, 3), 1);
    Check.due("no NO", x.count(5), 0);
  }

  // "the first such: their JOIN"
  private static void firstBarredAlone() {
    TwoRumours x = Check.with(DEAF, "say;say;say bars1,0;say joins1 2;say joins2 0;");
    x.begin(0, 2);
    x.begin(1, 1);
    x.begin(1, 0);
    Check.due("the join of the first", x.go(1), 1);
    Check.due("0 and 2", x.holds(1, 4, 0), 1);
    Check.due("not of 1 and 2", x.holds(1, 3, 0), 0);
    Check.due("again: the first such has it already", x.go(1), 0);
    Check.due("NO", x.count(5), 1);
    Check.due("not of 1 and 2", x.holds(1, 3, 0), 0);
    TwoRumours y = Check.with(DEAF, "say;say;say bars0,1;say joins1 2;");
    y.begin(0, 2);
    y.begin(1, 0);
    y.begin(1, 1);
    Check.due("the first has no join", y.go(1), 0);
    Check.due("NO", y.count(5), 1);
    TwoRumours held = Check.with(DEAF, "say;say;say bars0,1;say joins0 2;say joins1 2;");
    held.begin(0, 2);
    held.begin(1, 1);
    Check.due("of those barred the first that is held", held.go(1), 1);
    Check.due("1 and 2", held.holds(1, 4, 0), 1);
    TwoRumours barred = Check.with(DEAF, "say;say;say bars1;say joins0 2;say joins1 2;");
    barred.begin(0, 2);
    barred.begin(1, 0);
    barred.begin(1, 1);
    Check.due("of those held the first that is barred", barred.go(1), 1);
    Check.due("1 and 2", barred.holds(1, 4, 0), 1);
    Check.due("not 0 and 2", barred.holds(1, 3, 0), 0);
    TwoRumours z = Check.with(DEAF, "say;say bars0;say joins0 1;");
    z.begin(0, 0);
    z.begin(1, 1);
    Check.due("either of the two may be told", z.go(1), 1);
    Check.due("their join", z.holds(1, 2, 0), 1);
  }

  // "if there is one and B does not HOLD that ... if not: NO (counted in all)"
  private static void joinOnlyIfNotHeld() {
    TwoRumours x = Check.with(DEAF, "say;say bars0;say joins0 1;");
    x.begin(0, 0);
    x.begin(1, 1);
    x.begin(1, 2);
    Check.due("it holds the join", x.go(1), 0);
    Check.due("NO", x.count(5), 1);
    x.go(499);
    Check.due("each time", x.count(5), 500);
    Check.due("nobody tires of a NO", x.holds(0, 0, 0), 1);
    Check.due("its own join stays", x.holds(1, 2, 1), Check.NOBODY);
    Check.due("B does not hold what it was told", x.holds(1, 0, 0), 0);
  }

  private static void noWithoutDraw() {
    TwoRumours x = Check.with(DEAF, "say;say bars0;say joins0 1;");
    x.begin(0, 0);
    x.begin(1, 1);
    x.seed(9);
    x.go(1);
    Check.due("a join without heed: one draw", Check.seedOf(x), Check.seedBehind(9, 1));
    x.go(1);
    Check.due("a NO without heed: one draw", Check.seedOf(x), Check.seedBehind(9, 2));
    TwoRumours y = bothHold(3);
    y.seed(9);
    y.go(1);
    Check.due("'I know' without heed: one draw", Check.seedOf(y), Check.seedBehind(9, 1));
  }

  private static void barredThoughTired() {
    TwoRumours x = Check.with("person0;person100silent at0;tie0 1 1;", "say;say bars0;say bars0;");
    x.begin(1, 0);
    x.notice(0, 1, 100);
    Check.due("tired of 0", x.holds(1, 0, 0), 2);
    x.begin(0, 2);
    Check.due("it holds 0 all the same", x.go(1), 0);
    Check.due("NO", x.count(5), 1);
  }

  private static int heeds(int heed, int draw) {
    TwoRumours x = Check.with("person0;person" + heed + "silent;tie0 1 1;", "say;");
    x.begin(0, 0);
    x.seed(Check.seedFor(new int[] {1, 100}, new int[] {0, draw}));
    int came = x.go(1);
    Check.due("as it holds it", x.holds(1, 0, 0), came);
    return came;
  }

  // "B HEEDS: a DRAW of 100 below HEED": the ends of HEED
  private static void heedZeroAndHundred() {
    Check.due("heed 0, draw 0", heeds(0, 0), 0);
    Check.due("heed 0, draw 99", heeds(0, 99), 0);
    Check.due("heed 100, draw 0", heeds(100, 0), 1);
    Check.due("heed 100, draw 99", heeds(100, 99), 1);
  }

  private static void heedJustBelow() {
    Check.due("heed 1, draw 0", heeds(1, 0), 1);
    Check.due("heed 1, draw 1", heeds(1, 1), 0);
    Check.due("heed 99, draw 98", heeds(99, 98), 1);
    Check.due("heed 99, draw 99", heeds(99, 99), 0);
  }

  private static int heedsMore(int heed, int more, int draw) {
    TwoRumours x = Check.with("person0;person" + heed + "silent;tie0 1 1;", "say asks0;say answers0;");
    x.rule(1, more);
    x.begin(1, 0);
    x.begin(0, 1);
    x.seed(Check.seedFor(new int[] {1, 100}, new int[] {0, draw}));
    return x.go(1);
  }

  // "(and more heed, if it answers ...; 100 at most)"
  private static void moreHeedAtMostHundred() {
    Check.due("0 and 0, draw 0", heedsMore(0, 0, 0), 0);
    Check.due("0 and 1, draw 0", heedsMore(0, 1, 0), 1);
    Check.due("0 and 1, draw 1", heedsMore(0, 1, 1), 0);
    Check.due("0 and 100, draw 99", heedsMore(0, 100, 99), 1);
    Check.due("50 and 49, draw 98", heedsMore(50, 49, 98), 1);
    Check.due("50 and 49, draw 99", heedsMore(50, 49, 99), 0);
    Check.due("50 and 50, draw 99", heedsMore(50, 50, 99), 1);
    Check.due("100 and 100, draw 0", heedsMore(100, 100, 0), 1);
    Check.due("100 and 100, draw 99", heedsMore(100, 100, 99), 1);
    Check.due("at first 20: 30 and 20, draw 49", heedsMore(30, 20, 49), 1);
  }

  // "(1 .. 20; 3 at first)", "(0 .. 100; 20)", without a call of rule
  private static void rulesAtFirst() {
    for (int draw = 19; draw <= 20; draw++) {
      TwoRumours x = Check.with(DEAF, "say asks0;say answers0;");
      x.begin(1, 0);
      x.begin(0, 1);
      x.seed(Check.seedFor(new int[] {1, 100}, new int[] {0, draw}));
      Check.due("0 and 20 at first, draw " + draw, x.go(1), draw < 20 ? 1 : 0);
    }
    TwoRumours y = Check.with(DEAF, "say;");
    y.begin(0, 0);
    y.begin(1, 0);
    y.go(2);
    Check.due("twice 'I know'", y.holds(0, 0, 0), 1);
    y.go(1);
    Check.due("three times", y.holds(0, 0, 0), 2);
  }

  // "if it answers a question that a SAYING asks that B HOLDS"
  private static void moreHeedForWhatIsHeld() {
    String[] told = {"say asks3;say answers3;", "say asks3;say answers4;", "say asks3;say;", "say;say answers3;", "say;say;"};
    for (int k = 0; k < told.length; k++) {
      TwoRumours x = Check.with(DEAF, told[k]);
      x.rule(1, 100);
      x.begin(1, 0);
      x.begin(0, 1);
      Check.due(told[k], x.go(1), k == 0 ? 1 : 0);
    }
    TwoRumours y = Check.with(DEAF, "say asks3;say answers3;");
    y.rule(1, 100);
    y.begin(0, 1);
    Check.due("B does not hold what asks", y.go(1), 0);
    TwoRumours z = Check.with(DEAF, "say;say;say;say;say asks0;say asks9answers0;");
    z.rule(1, 100);
    z.begin(1, 4);
    z.begin(0, 5);
    Check.due("the last two of six, question 0", z.go(1), 1);
    TwoRumours itself = Check.with(DEAF, "say asks3answers3;");
    itself.rule(1, 100);
    itself.begin(0, 0);
    Check.due("what it asks itself B does not hold", itself.go(1), 0);
  }

  private static void moreHeedThoughTired() {
    TwoRumours x = Check.with("person0;person0silent at0;tie0 1 1;", "say asks3;say bars0;say answers3;");
    x.rule(1, 100);
    x.begin(1, 0);
    x.notice(0, 1, 100);
    Check.due("tired of what asks", x.holds(1, 0, 0), 2);
    x.begin(0, 2);
    Check.due("it holds it all the same", x.go(1), 1);
  }

  // "TOLD BY: the SET of those who told it that (whatever came of it)"
  private static void toldByWhateverCame() {
    TwoRumours x = Check.with("person0;person0silent;person0;tie0 1 1;tie2 1 1;", "say;say bars0;say joins0 1;");
    Check.due("by nobody", x.holds(1, 0, 4), 0);
    x.begin(0, 0);
    x.go(1);
    Check.due("not heeded", x.holds(1, 0, 4), 1);
    x.begin(1, 1);
    x.go(1);
    Check.due("a join came of it", x.holds(1, 2, 0), 1);
    Check.due("told 0", x.holds(1, 0, 4), 1);
    Check.due("not told the join", x.holds(1, 2, 4), 0);
    x.begin(2, 1);
    x.go(1);
    Check.due("I know", x.holds(1, 1, 4), 4);
    x.begin(2, 0);
    x.fresh();
    Check.due("fresh: by nobody", x.holds(1, 0, 4), 0);
    TwoRumours y = Check.with("person0;person0silent;person0;tie0 1 1;tie2 1 1;", "say;say bars0;");
    y.begin(1, 1);
    y.begin(0, 0);
    y.begin(2, 0);
    y.go(1);
    Check.due("NO, by two", y.holds(1, 0, 4), 5);
    Check.due("two NOs", y.count(5), 2);
  }

  // "0 at first: each DRAW it becomes it times 1103515245 and 12345, left over by 2 to the 31"
  private static void drawsFromTheSeed() {
    TwoRumours x = Check.with("person0at0;", "say;");
    Check.due("0 at first", Check.seedOf(x), 0);
    for (int k = 1; k <= 20; k++) {
      x.notice(0, 0, 0);
      Check.due("draw " + k, Check.seedOf(x), Check.seedBehind(0, k));
    }
    for (long seed : new long[] {0, 1, 1L << 30, 2147483646L, 2147483647L}) {
      x.seed((int) seed);
      x.notice(0, 0, 0);
      Check.due("from " + seed, Check.seedOf(x), (seed * 1103515245L + 12345L) % 2147483648L);
    }
    int below = Check.seedFor(new int[] {100}, new int[] {0});
    x.seed(below);
    Check.due("a draw of 0 is below 1", x.notice(0, 0, 1), 1);
  }
}
