/** Promises 36 to 38: the seed, images. */
public final class ImagesTest {
  private static final String TOWN = "person 70 at 0;person 60;person 90 at 0;tie 0 1 3;tie 1 2 2;";
  private static final String SAYINGS = "say;say bars 0;say joins 0 1;";

  public static void main(String[] args) {
    seeds();
    images();
    waysAndBeginnings();
    notKept();
    Check.end();
  }

  private static void seeds() {
    TwoRumours x = new TwoRumours();
    Check.due("0 at first", x.seed(2147483647), 0);
    Check.due("below 0", x.seed(-1), Check.OUTSIDE);
    Check.due("it stays", x.seed(0), 2147483647);
    Check.town(x, "person 1 at 0;");
    Check.sayings(x, "say;");
    x.notice(0, 0, 0);
    Check.due("one draw from 0", x.seed(2147483647), 12345);
    x.notice(0, 0, 0);
    Check.due("one draw from the greatest", x.seed(0), (2147483647L * 1103515245L + 12345L) % 2147483648L);
  }

  private static String all(TwoRumours x) {
    StringBuilder s = new StringBuilder();
    for (int p = 0; p < 3; p++) {
      for (int r = 0; r < 3; r++) {
        for (int what = 0; what < 5; what++) {
          s.append(x.holds(p, r, what)).append(' ');
        }
        for (int i = -1; i < 4; i++) {
          s.append(x.way(p, r, i)).append(' ');
        }
      }
    }
    int seed = x.seed(0);
    x.seed(seed);
    s.append(x.count(4)).append(' ').append(x.count(5)).append(' ').append(x.count(7)).append(' ').append(seed);
    for (int t = 0; t < 5; t++) {
      s.append(' ').append(x.curve(7, 0, t)).append(' ').append(x.curve(7, 1, t));
    }
    return s.toString();
  }

  private static void images() {
    TwoRumours x = Check.with(TOWN, SAYINGS);
    x.seed(4711);
    x.begin(0, 0);
    x.begin(2, 1);
    x.go(3);
    Check.due("keep 0", x.keep(0), 1);
    String first = all(x);
    x.go(40);
    x.begin(1, 2);
    x.notice(0, 0, 50);
    x.ask(0, 1, 5);
    x.rule(0, 9);
    x.report(3, 3);
    Check.due("keep 1", x.keep(1), 1);
    String second = all(x);
    x.fresh();
    Check.due("back to 0", x.goBack(0), 1);
    Check.due("all as kept", all(x).equals(first) ? 1 : 0, 1);
    Check.due("interviews are not kept", x.count(6), 1);
    Check.due("rules are not kept", x.rule(0, 3), 9);
    Check.due("the land is not kept", x.source(1, 0), 3);
    x.go(7);
    Check.due("back to 1", x.goBack(1), 1);
    Check.due("all as kept", all(x).equals(second) ? 1 : 0, 1);
    x.goBack(0);
    Check.due("an image stays", all(x).equals(first) ? 1 : 0, 1);
    x.go(2);
    x.keep(0);
    String third = all(x);
    x.go(5);
    x.goBack(0);
    Check.due("kept anew", all(x).equals(third) ? 1 : 0, 1);
  }

  /** What came behind the keeping uses the same rows otherwise: none of it may show again. */
  private static void waysAndBeginnings() {
    TwoRumours x = Check.with("person 100;person 0;person 0;tie 0 1 1;", SAYINGS);
    x.begin(0, 0);
    x.begin(1, 1);
    x.go(3);
    x.begin(2, 0);
    x.keep(1);
    String kept = all(x);
    Check.due("by a join", x.way(0, 2, -1), 3);
    x.fresh();
    x.begin(1, 2);
    x.go(1);
    x.begin(0, 1);
    x.begin(2, 1);
    Check.due("of its own", x.way(0, 2, -1), 2);
    x.goBack(1);
    Check.due("by a join again", x.way(0, 2, -1), 3);
    Check.due("all as kept", all(x).equals(kept) ? 1 : 0, 1);
    Check.due("what began at 0", x.curve(1, 0, 2), 1);
    Check.due("what began at 3", x.curve(1, 0, 3), 2);
  }

  private static void notKept() {
    TwoRumours x = Check.with(TOWN, SAYINGS);
    Check.due("keep 2", x.keep(2), Check.UNKNOWN);
    Check.due("keep -1", x.keep(-1), Check.UNKNOWN);
    Check.due("goBack 2", x.goBack(2), Check.UNKNOWN);
    Check.due("goBack -1", x.goBack(-1), Check.UNKNOWN);
    Check.due("goBack 1", x.goBack(1), Check.NOT);
    x.keep(0);
    Check.due("goBack 1", x.goBack(1), Check.NOT);
    Check.due("goBack 0", x.goBack(0), 1);
  }
}
