/** Promises 36 to 38 and IMAGES of part 4: each sentence that names an edge has a method of its own. */
public final class EdgesOfImagesTest {
  private static final int LOW = Integer.MIN_VALUE, HIGH = Integer.MAX_VALUE;
  private static final String DEAF = "person0at0;person0silent at1;tie0 1 1;";

  public static void main(String[] args) {
    seed0ToTheGreatest();
    keepUnknown();
    goBackNotKept();
    goBackToNothing();
    imageKeepsWhatIsHeldAndHow();
    imageKeepsSinceWhen();
    imageKeepsFromWhomAndTheWay();
    imageKeepsToldBy();
    imageKeepsWhatBegan();
    imageKeepsTickNosSeed();
    imageKeepsNoInterviewsRulesLand();
    imageIsKeptAnew();
    imagesAreApart();
    imagesStayWhenGoneBackTo();
    imagesAreGoneByTexts();
    imagesStayByFaults();
    Check.end();
  }

  // "THE SEED becomes v (0 .. 2147483647): what it was. OUTSIDE"
  private static void seed0ToTheGreatest() {
    TwoRumours x = new TwoRumours();
    Check.due("0 at first", x.seed(HIGH), 0);
    for (int v : new int[] {LOW, -2, -1}) {
      Check.due("seed " + v, x.seed(v), Check.OUTSIDE);
    }
    Check.due("the greatest stayed", x.seed(0), HIGH);
    Check.due("0", x.seed(1), 0);
    Check.due("1", x.seed(2), 1);
  }

  // "IMAGES 0, 1"; "keep ... UNKNOWN"
  private static void keepUnknown() {
    TwoRumours x = new TwoRumours();
    for (int i : new int[] {LOW, -1, 2, HIGH}) {
      Check.due("keep " + i, x.keep(i), Check.UNKNOWN);
      Check.due("goBack " + i, x.goBack(i), Check.UNKNOWN);
    }
    Check.due("none was kept", x.goBack(0), Check.NOT);
    Check.due("none was kept", x.goBack(1), Check.NOT);
    Check.due("keep 0", x.keep(0), 1);
    Check.due("keep 1", x.keep(1), 1);
  }

  // "NOT: it was not kept"
  private static void goBackNotKept() {
    TwoRumours x = new TwoRumours();
    x.go(5);
    x.keep(1);
    x.go(5);
    Check.due("0 was not", x.goBack(0), Check.NOT);
    Check.due("nothing changed", x.count(4), 10);
    Check.due("1 was", x.goBack(1), 1);
    Check.due("its tick", x.count(4), 5);
    TwoRumours y = new TwoRumours();
    y.keep(0);
    Check.due("1 was not", y.goBack(1), Check.NOT);
    Check.due("0 was", y.goBack(0), 1);
  }

  // an image of a new object
  private static void goBackToNothing() {
    TwoRumours x = Check.with(DEAF, "say;say bars0;");
    x.keep(0);
    x.begin(0, 0);
    x.begin(1, 1);
    x.go(9);
    x.seed(5);
    x.goBack(0);
    int[] due = {2, 1, 2, 0, 0, 0, 0, 0};
    for (int what = 0; what < 8; what++) {
      Check.due("count " + what, x.count(what), due[what]);
    }
    Check.due("nobody holds 0", x.holders(0), 0);
    Check.due("nobody holds 1", x.holders(1), 0);
    Check.due("nobody was told", x.holds(1, 0, 4), 0);
    Check.due("the seed", x.seed(0), 0);
  }

  // "what all HOLD, how"
  private static void imageKeepsWhatIsHeldAndHow() {
    TwoRumours x = Check.with(DEAF, "say;say;");
    x.begin(0, 0);
    x.begin(1, 0);
    x.go(2);
    x.keep(0);
    x.go(1);
    Check.due("tired", x.holds(0, 0, 0), 2);
    x.begin(0, 1);
    x.keep(1);
    x.goBack(0);
    Check.due("tells it", x.holds(0, 0, 0), 1);
    Check.due("'I know' twice", x.holds(0, 0, 3), 2);
    Check.due("does not hold the other", x.holds(0, 1, 0), 0);
    x.go(1);
    Check.due("tired by the third", x.holds(0, 0, 0), 2);
    x.fresh();
    x.goBack(1);
    Check.due("tired", x.holds(0, 0, 0), 2);
    Check.due("'I know' three times", x.holds(0, 0, 3), 3);
    Check.due("tells the other", x.holds(0, 1, 0), 1);
    Check.due("since 3", x.holds(0, 1, 2), 3);
  }

  // "how": since when, and so which of two it tells first
  private static void imageKeepsSinceWhen() {
    TwoRumours x = Check.with(DEAF, "say;say;");
    x.begin(0, 1);
    x.go(2);
    x.begin(0, 0);
    x.keep(0);
    x.fresh();
    x.begin(0, 0);
    x.go(7);
    x.begin(0, 1);
    x.goBack(0);
    Check.due("1 since 0", x.holds(0, 1, 2), 0);
    Check.due("0 since 2", x.holds(0, 0, 2), 2);
    x.go(1);
    Check.due("0 is the latest", x.holds(1, 0, 4), 1);
  }

  // "FROM whom"
  private static void imageKeepsFromWhomAndTheWay() {
    TwoRumours x = Check.with(DEAF, "say;say bars0;say joins0 1;");
    x.begin(0, 0);
    x.begin(1, 1);
    x.go(1);
    Check.due("the join from 0", x.holds(1, 2, 1), 0);
    x.keep(0);
    x.fresh();
    x.notice(1, 2, 100);
    Check.due("now by a notice", x.holds(1, 2, 1), 24);
    Check.due("way of one", x.way(1, 2, -1), 1);
    x.keep(1);
    x.goBack(0);
    Check.due("from 0", x.holds(1, 2, 1), 0);
    Check.due("way of two", x.way(1, 2, -1), 2);
    Check.due("its root", x.way(1, 2, 1), 0);
    x.goBack(1);
    Check.due("by a notice", x.holds(1, 2, 1), 24);
    Check.due("way of one", x.way(1, 2, -1), 1);
  }

  // "TOLD BY"
  private static void imageKeepsToldBy() {
    TwoRumours x = Check.with(DEAF, "say;");
    x.begin(0, 0);
    x.keep(0);
    x.go(1);
    x.keep(1);
    Check.due("told", x.holds(1, 0, 4), 1);
    x.goBack(0);
    Check.due("not told", x.holds(1, 0, 4), 0);
    x.goBack(1);
    Check.due("told", x.holds(1, 0, 4), 1);
    Check.due("worth one", x.nine(1, 0, 0), 1);
  }

  // "what BEGAN"
  private static void imageKeepsWhatBegan() {
    TwoRumours x = Check.with(DEAF, "say;say;");
    x.begin(0, 0);
    x.go(4);
    x.begin(1, 0);
    x.keep(0);
    x.fresh();
    x.go(2);
    x.begin(0, 1);
    x.begin(0, 0);
    x.begin(1, 1);
    x.goBack(0);
    Check.due("two began", x.count(7), 2);
    Check.due("at 0", x.curve(3, 0, 0), 1);
    Check.due("at 3", x.curve(3, 0, 3), 1);
    Check.due("at 4", x.curve(3, 0, 4), 2);
    Check.due("not the other", x.curve(3, 1, 4), 0);
  }

  // "THE TICK, NOs, THE SEED"
  private static void imageKeepsTickNosSeed() {
    TwoRumours x = Check.with(DEAF, "say;say bars0;");
    x.begin(0, 0);
    x.begin(1, 1);
    x.seed(55);
    x.go(3);
    x.keep(0);
    int seed = Check.seedOf(x);
    x.go(10);
    x.seed(7);
    x.goBack(0);
    Check.due("the tick", x.count(4), 3);
    Check.due("NOs", x.count(5), 3);
    Check.due("the seed", Check.seedOf(x), seed);
    x.seed(8);
    x.goBack(0);
    Check.due("the image's seed stays", Check.seedOf(x), seed);
  }

  // "(not INTERVIEWS, RULES, THE LAND)"
  private static void imageKeepsNoInterviewsRulesLand() {
    TwoRumours x = Check.with(DEAF, "say;");
    x.ask(0, 1, 5);
    x.rule(0, 7);
    x.rule(1, 70);
    x.road(0, 1, 5);
    x.report(0, 5);
    Check.feed(x, "ab");
    x.keep(0);
    x.ask(1, 0, 6);
    x.ask(0, -2, 9);
    x.rule(0, 8);
    x.rule(1, 80);
    x.road(0, 1, 6);
    x.report(1, 6);
    Check.feed(x, "cd");
    x.goBack(0);
    Check.due("interviews", x.count(6), 2);
    Check.due("the newer one", x.end(1), 0);
    Check.due("rule 0", x.rule(0, 3), 8);
    Check.due("rule 1", x.rule(1, 20), 80);
    Check.due("the road", x.road(0, 1, 5), 6);
    Check.due("the reports", x.silence(), 2);
    Check.due("the text", x.count(3), 4);
  }

  // "IMAGE i becomes what is so: 1"
  private static void imageIsKeptAnew() {
    TwoRumours x = new TwoRumours();
    x.go(1);
    x.keep(0);
    x.go(1);
    Check.due("kept again", x.keep(0), 1);
    x.go(1);
    x.goBack(0);
    Check.due("the newer one", x.count(4), 2);
  }

  private static void imagesAreApart() {
    TwoRumours x = new TwoRumours();
    x.go(1);
    x.keep(0);
    x.go(1);
    x.keep(1);
    x.go(1);
    Check.due("back to 0", x.goBack(0), 1);
    Check.due("1", x.count(4), 1);
    Check.due("back to 1", x.goBack(1), 1);
    Check.due("2", x.count(4), 2);
    x.goBack(0);
    x.keep(1);
    x.go(7);
    x.goBack(1);
    Check.due("1 became what 0 was", x.count(4), 1);
  }

  private static void imagesStayWhenGoneBackTo() {
    TwoRumours x = Check.with(DEAF, "say;");
    x.begin(0, 0);
    x.keep(0);
    for (int k = 0; k < 3; k++) {
      x.go(5);
      x.begin(1, 0);
      Check.due("back", x.goBack(0), 1);
      Check.due("one holds it", x.holders(0), 1);
      Check.due("at 0", x.count(4), 0);
      Check.due("one began", x.count(7), 1);
    }
    x.fresh();
    Check.due("fresh leaves it", x.goBack(0), 1);
    Check.due("one holds it", x.holders(0), 1);
  }

  // "IMAGES are gone" by a new TOWN, by new SAYINGS, by empty ones, too
  private static void imagesAreGoneByTexts() {
    for (int how = 0; how < 4; how++) {
      TwoRumours x = Check.with(DEAF, "say;");
      x.keep(0);
      x.keep(1);
      Check.feed(x, how == 0 ? "person1;" : how == 1 ? "say;" : "");
      int came = how % 2 == 0 ? x.town() : x.sayings();
      Check.due("no fault", came, how < 2 ? 1 : 0);
      Check.due("0 is gone", x.goBack(0), Check.NOT);
      Check.due("1 is gone", x.goBack(1), Check.NOT);
      x.keep(1);
      Check.due("1 is kept again", x.goBack(1), 1);
      Check.due("0 is not", x.goBack(0), Check.NOT);
    }
  }

  private static void imagesStayByFaults() {
    TwoRumours x = Check.with(DEAF, "say;");
    x.begin(0, 0);
    x.keep(0);
    Check.due("a fault", Check.town(x, "x"), -11);
    Check.due("a fault", Check.sayings(x, "x"), -11);
    Check.feed(x, " ".repeat(301));
    Check.due("NOT", x.sayings(), Check.NOT);
    x.fresh();
    Check.due("it stays", x.goBack(0), 1);
    Check.due("as it was", x.holders(0), 1);
  }
}
