/** Promises 22 to 26: interviews, ends, who may have begun it, the best notice. */
public final class InterviewsTest {
  private static final String FIVE = "person 10;".repeat(6);

  public static void main(String[] args) {
    asking();
    ends();
    beginners();
    falseOnes();
    bestNotice();
    bestIsTried();
    waitsToNine();
    Check.end();
  }

  private static void asking() {
    TwoRumours x = Check.with(FIVE, "say;");
    Check.due("one", x.ask(0, 1, 0), 1);
    Check.due("again", x.ask(0, -2, 9999), 1);
    Check.due("another", x.ask(5, 0, 5), 2);
    Check.due("no such person", x.ask(6, 0, 5), Check.UNKNOWN);
    Check.due("below", x.ask(-1, 0, 5), Check.UNKNOWN);
    Check.due("from no such", x.ask(0, 6, -5), Check.UNKNOWN);
    Check.due("from NONE", x.ask(0, -1, 5), Check.UNKNOWN);
    Check.due("from below", x.ask(0, -3, 5), Check.UNKNOWN);
    Check.due("from oneself", x.ask(0, 0, 5), Check.UNKNOWN);
    Check.due("tick -1", x.ask(0, 1, -1), Check.OUTSIDE);
    Check.due("tick 10000", x.ask(0, 1, 10000), Check.OUTSIDE);
    Check.due("the newer one counts, refused ones don't", x.end(5), 0);
    Check.due("interviews", x.count(6), 2);
    Check.due("forget", x.forget(), 2);
    Check.due("none", x.forget(), 0);
    Check.due("none", x.count(6), 0);
  }

  private static void ends() {
    TwoRumours x = Check.with(FIVE, "");
    Check.due("not asked", x.end(0), Check.NOT);
    Check.due("unknown", x.end(6), Check.UNKNOWN);
    Check.due("unknown", x.end(-1), Check.UNKNOWN);
    x.ask(0, -2, 1);
    Check.due("NOBODY: itself", x.end(0), 0);
    x.ask(1, 2, 1);
    Check.due("one not asked", x.end(1), 2);
    x.ask(2, 3, 1);
    x.ask(3, 1, 1);
    Check.due("round", x.end(1), Check.NONE);
    x.ask(4, 1, 1);
    Check.due("into the round", x.end(4), Check.NONE);
    x.ask(3, 0, 1);
    Check.due("no more", x.end(4), 0);
  }

  private static void beginners() {
    TwoRumours x = Check.with(FIVE, "");
    Check.due("none", x.who(0), Check.NONE);
    Check.due("none", x.who(1), Check.NONE);
    Check.due("what 3", x.who(3), Check.OUTSIDE);
    Check.due("what -1", x.who(-1), Check.OUTSIDE);
    x.ask(5, -2, 1);
    Check.due("itself too", x.who(0), 5);
    Check.due("asked, so not next", x.who(1), Check.NONE);
    x.ask(1, 4, 1);
    Check.due("of like ones the least", x.who(0), 4);
    Check.due("next", x.who(1), 4);
    x.ask(0, 5, 2);
    Check.due("most", x.who(0), 5);
    Check.due("next is another", x.who(1), 4);
    x.ask(2, 3, 1);
    Check.due("of like next ones the least", x.who(1), 3);
  }

  private static void falseOnes() {
    TwoRumours x = Check.with(FIVE, "");
    Check.due("none", x.who(2), 0);
    x.ask(0, -2, 5);
    x.ask(1, 0, 6);
    Check.due("later is well", x.who(2), 0);
    x.ask(1, 0, 5);
    Check.due("not earlier", x.who(2), 2);
    x.ask(2, 1, 4);
    Check.due("two", x.who(2), 6);
    x.ask(3, 4, 0);
    Check.due("of one not asked", x.who(2), 6);
    x.ask(4, 3, 9);
    Check.due("round", x.who(2), 6 | 8 | 16);
    x.ask(5, 4, 99);
    Check.due("into the round", x.who(2), 6 | 8 | 16 | 32);
  }

  private static void bestNotice() {
    // nobody tells anyone: the place with most persons, at once
    String town = "person 0 at 1;person 0 at 1;person 0 at 3;person 0 at 3;person 0;";
    TwoRumours x = Check.with(town, "say;");
    Check.due("place", x.best(0, 100, 1, 0), 1);
    Check.due("ticks", x.best(0, 100, 1, 1), 0);
    Check.due("how many", x.best(0, 100, 1, 2), 2);
    Check.due("nobody believes", x.best(0, 0, 9, 0), Check.NONE);
    Check.due("nobody believes", x.best(0, 0, 9, 1), Check.NONE);
    Check.due("nobody believes", x.best(0, 0, 9, 2), Check.NONE);
    x.begin(0, 0);
    Check.due("one holds it there", x.best(0, 100, 100, 0), 3);
    Check.due("three then", x.best(0, 100, 100, 2), 3);
    Check.due("saying 1", x.best(1, 101, 1, 0), Check.UNKNOWN);
    Check.due("saying -1", x.best(-1, 1, 1, 0), Check.UNKNOWN);
    Check.due("b 101", x.best(0, 101, 1, 0), Check.OUTSIDE);
    Check.due("b -1", x.best(0, -1, 1, 0), Check.OUTSIDE);
    Check.due("u 0", x.best(0, 1, 0, 0), Check.OUTSIDE);
    Check.due("u 101", x.best(0, 1, 101, 0), Check.OUTSIDE);
    Check.due("what 3", x.best(0, 1, 1, 3), Check.OUTSIDE);
    Check.due("what -1", x.best(0, 1, 1, -1), Check.OUTSIDE);
  }

  private static void bestIsTried() {
    String town = "person 60 at 0;person 70;person 30 at 1;person 50;person 40 at 2;tie 0 1 3;tie 1 2 4;tie 2 3 1;tie 3 4 5;tie 4 0 2;";
    for (int seed = 1; seed < 100; seed++) {
      TwoRumours x = Check.with(town, "say;say bars 0;");
      x.seed(seed * 31337);
      x.begin(0, 0);
      x.begin(3, 1);
      x.go(2);
      x.keep(0);
      int u = seed % 2 == 0 ? 3 : 14;
      int place = x.best(0, 60, u, 0);
      int wait = x.best(0, 60, u, 1);
      int most = x.best(0, 60, u, 2);
      Check.due("the tick stays", x.count(4), 2);
      int[] found = bestByHand(x, 0, 60, u);
      Check.due("place", place, found[0]);
      Check.due("wait", wait, found[1]);
      Check.due("most", most, found[2]);
    }
  }

  /** One sits at a place, of two others one tells in vain: two draws a tick, the notice has the next one. */
  private static void waitsToNine() {
    int waits = 0;
    for (int seed = 1; seed < 400; seed++) {
      TwoRumours x = Check.with("person 0 at 2;person 0;person 0;tie 1 2 1;", "say;say;");
      x.begin(1, 1);
      x.seed(seed * 7919);
      int[] of = new int[21];
      java.util.Arrays.fill(of, 100);
      int[] draws = Check.draws(seed * 7919, of);
      int due = Check.NONE;
      for (int wait = 9; wait >= 0; wait--) {
        due = draws[2 * wait] < 5 ? wait : due;
      }
      Check.due("wait", x.best(0, 5, 30, 1), due);
      Check.due("place", x.best(0, 5, 30, 0), due == Check.NONE ? Check.NONE : 2);
      Check.due("less than u", x.best(0, 5, 4, 1), due > 3 ? Check.NONE : due);
      waits |= due < 0 ? 0 : 1 << due;
    }
    Check.due("each wait from 0 to 9 was best once", waits, 1023);
  }

  /** Tries all notices on the object itself, from image 0. */
  private static int[] bestByHand(TwoRumours x, int s, int b, int u) {
    x.goBack(0);
    x.go(u);
    int without = Integer.bitCount(x.holders(s));
    int[] found = {-1, -1, -1};
    for (int wait = 0; wait < u && wait < 10; wait++) {
      for (int place = 0; place < 4; place++) {
        x.goBack(0);
        if (wait > 0) {
          x.go(wait);
        }
        x.notice(place, s, b);
        x.go(u - wait);
        int held = Integer.bitCount(x.holders(s));
        if (held > without && held > found[2]) {
          found = new int[] {place, wait, held};
        }
      }
    }
    x.goBack(0);
    return found;
  }
}
