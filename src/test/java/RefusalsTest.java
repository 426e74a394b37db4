import java.util.ArrayList;
import java.util.List;
import java.util.function.Consumer;
import java.util.function.ToIntFunction;

/**
 * "REFUSALS, of several the first in this order"; "What is refused changes nothing": each refused call is
 * made on one of two objects that are alike, then both are read whole and must be alike still.
 */
public final class RefusalsTest {
  private static final int LOW = Integer.MIN_VALUE, HIGH = Integer.MAX_VALUE;
  private static final int UNKNOWN = Check.UNKNOWN, OUTSIDE = Check.OUTSIDE, NOT = Check.NOT, FULL = Check.FULL;

  record Refused(String call, int due, ToIntFunction<TwoRumours> made) {}

  private static final List<Refused> ALL = new ArrayList<>();

  public static void main(String[] args) {
    Check.due("UNKNOWN", TwoRumours.UNKNOWN, -1000001);
    Check.due("OUTSIDE", TwoRumours.OUTSIDE, -1000002);
    Check.due("NOT", TwoRumours.NOT, -1000003);
    Check.due("FULL", TwoRumours.FULL, -1000004);
    Check.due("NONE", TwoRumours.NONE, -1);
    Check.due("NOBODY", TwoRumours.NOBODY, -2);
    askedOfTexts();
    askedOfTicks();
    askedOfInterviews();
    askedOfTheNet();
    askedOfTheLand();
    askedOfImages();
    hold(RefusalsTest::lively);
    ALL.clear();
    add("feed(3, ..)", FULL, x -> x.feed(3, 0x78787878L));
    add("feed(8, ..)", FULL, x -> x.feed(8, 0x78787878L));
    add("feed(9, ..)", OUTSIDE, x -> x.feed(9, 0x78787878L));
    add("feed(0, ..)", OUTSIDE, x -> x.feed(0, 0x78787878L));
    add("sayings()", NOT, x -> x.sayings());
    hold(RefusalsTest::fullText);
    ALL.clear();
    add("begin(3, 3)", FULL, x -> x.begin(23, 1));
    add("begin(0, 0)", NOT, x -> x.begin(0, 0));
    add("begin(24, 0)", UNKNOWN, x -> x.begin(24, 0));
    add("begin(23, 2)", UNKNOWN, x -> x.begin(23, 2));
    hold(RefusalsTest::fullBeginnings);
    ALL.clear();
    add("person(0, 0)", UNKNOWN, x -> x.person(0, 0));
    add("tie(0, 0)", UNKNOWN, x -> x.tie(0, 0));
    add("saying(0, 0)", UNKNOWN, x -> x.saying(0, 0));
    add("pair(0, 0, 0)", UNKNOWN, x -> x.pair(0, 0, 0));
    add("begin(0, 0)", UNKNOWN, x -> x.begin(0, 0));
    add("notice(0, 0, 50)", UNKNOWN, x -> x.notice(0, 0, 50));
    add("holds(0, 0, 0)", UNKNOWN, x -> x.holds(0, 0, 0));
    add("holders(0)", UNKNOWN, x -> x.holders(0));
    add("way(0, 0, 0)", UNKNOWN, x -> x.way(0, 0, 0));
    add("nine(0, 0, 0)", UNKNOWN, x -> x.nine(0, 0, 0));
    add("below(0, 0)", UNKNOWN, x -> x.below(0, 0));
    add("curve(0, 0, 0)", UNKNOWN, x -> x.curve(0, 0, 0));
    add("ask(0, NOBODY, 0)", UNKNOWN, x -> x.ask(0, -2, 0));
    add("end(0)", UNKNOWN, x -> x.end(0));
    add("best(0, 0, 1, 0)", UNKNOWN, x -> x.best(0, 0, 1, 0));
    add("reach(0, 0, 0)", UNKNOWN, x -> x.reach(0, 0, 0));
    add("many(1, 0)", UNKNOWN, x -> x.many(1, 0));
    add("began(0, 0, 0)", UNKNOWN, x -> x.began(0, 0, 0));
    add("goBack(0)", NOT, x -> x.goBack(0));
    hold(x -> { });
    objectsAreApart();
    Check.end();
  }

  /** One object's calls are nothing to another: both lead the same life, one of them among strangers. */
  private static void objectsAreApart() {
    TwoRumours alone = new TwoRumours();
    lively(alone);
    String due = readWhole(alone);
    TwoRumours x = new TwoRumours();
    lively(x);
    TwoRumours other = new TwoRumours();
    lively(other);
    other.go(77);
    other.rule(0, 1);
    other.keep(1);
    other.forget();
    other.silence();
    other.town();
    Check.same("an object beside another", readWhole(x), due);
  }

  private static void add(String call, int due, ToIntFunction<TwoRumours> made) {
    ALL.add(new Refused(call, due, made));
  }

  /** Four persons, four sayings, something of all there is; image 0 is kept, 1 is not; 3 was not asked. */
  private static void lively(TwoRumours x) {
    Check.town(x, "person70at0;person60silent at3;person90;person40at0;tie0 1 3;tie1 2 2;tie2 3 9;tie0 3 1;");
    Check.sayings(x, "say asks1;say answers1;say bars0;say joins0 2;");
    Check.town(x, "person;");
    x.rule(0, 4);
    x.rule(1, 33);
    x.seed(4711);
    x.begin(0, 0);
    x.begin(1, 2);
    x.go(3);
    x.keep(0);
    x.begin(2, 1);
    x.go(9);
    x.notice(0, 1, 60);
    x.ask(0, -2, 5);
    x.ask(1, 0, 5);
    x.ask(2, 3, 9);
    x.road(0, 1, 4);
    x.road(1, 2, 6);
    x.report(0, 4);
    x.report(2, 6);
    Check.feed(x, "say");
  }

  private static void fullText(TwoRumours x) {
    Check.sayings(x, "say;say;");
    Check.town(x, "person1;x");
    Check.feed(x, " ".repeat(590) + "person7;");
  }

  private static void fullBeginnings(TwoRumours x) {
    Check.town(x, "person0;".repeat(24));
    Check.sayings(x, "say;say;");
    for (int k = 0; k < 40; k++) {
      x.begin(k % 20, k / 20);
    }
  }

  private static void askedOfTexts() {
    for (int n : new int[] {LOW, -1, 0, 9, HIGH}) {
      add("feed(" + n + ", ..)", OUTSIDE, x -> x.feed(n, 0x7878787878787878L));
    }
    for (int what : new int[] {LOW, -1, 8, HIGH}) {
      add("count(" + what + ")", OUTSIDE, x -> x.count(what));
    }
    for (int p : new int[] {LOW, -1, 4, HIGH}) {
      add("person(" + p + ", 0)", UNKNOWN, x -> x.person(p, 0));
      add("person(" + p + ", 5)", UNKNOWN, x -> x.person(p, 5));
      add("tie(" + p + ", 0)", UNKNOWN, x -> x.tie(p, 0));
      add("tie(0, " + p + ")", UNKNOWN, x -> x.tie(0, p));
      add("saying(" + p + ", 0)", UNKNOWN, x -> x.saying(p, 0));
      add("saying(" + p + ", 3)", UNKNOWN, x -> x.saying(p, 3));
      add("pair(" + p + ", 0, 0)", UNKNOWN, x -> x.pair(p, 0, 0));
      add("pair(0, " + p + ", 2)", UNKNOWN, x -> x.pair(0, p, 2));
    }
    add("person(0, 5)", OUTSIDE, x -> x.person(0, 5));
    add("saying(0, 3)", OUTSIDE, x -> x.saying(0, 3));
    add("pair(0, 2, 2)", OUTSIDE, x -> x.pair(0, 2, 2));
    for (int v : new int[] {LOW, -1, 101, HIGH}) {
      add("rule(0, " + v + ")", OUTSIDE, x -> x.rule(0, v));
      add("rule(1, " + v + ")", OUTSIDE, x -> x.rule(1, v));
      add("rule(2, " + v + ")", OUTSIDE, x -> x.rule(2, v));
    }
    add("rule(0, 0)", OUTSIDE, x -> x.rule(0, 0));
    add("rule(0, 21)", OUTSIDE, x -> x.rule(0, 21));
    add("rule(-1, 5)", OUTSIDE, x -> x.rule(-1, 5));
    add("rule(2, 5)", OUTSIDE, x -> x.rule(2, 5));
  }

  private static void askedOfTicks() {
    for (int k : new int[] {LOW, -1, 4, HIGH}) {
      add("begin(" + k + ", 0)", UNKNOWN, x -> x.begin(k, 0));
      add("begin(0, " + k + ")", UNKNOWN, x -> x.begin(0, k));
      add("notice(" + k + ", 0, 50)", UNKNOWN, x -> x.notice(k, 0, 50));
      add("notice(" + k + ", 0, 101)", UNKNOWN, x -> x.notice(k, 0, 101));
      add("notice(0, " + k + ", 50)", UNKNOWN, x -> x.notice(0, k, 50));
      add("notice(0, " + k + ", -1)", UNKNOWN, x -> x.notice(0, k, -1));
      add("holds(" + k + ", 0, 5)", UNKNOWN, x -> x.holds(k, 0, 5));
      add("holds(0, " + k + ", 0)", UNKNOWN, x -> x.holds(0, k, 0));
      add("holders(" + k + ")", UNKNOWN, x -> x.holders(k));
      add("way(" + k + ", 0, 0)", UNKNOWN, x -> x.way(k, 0, 0));
      add("way(0, " + k + ", 0)", UNKNOWN, x -> x.way(0, k, 0));
      add("nine(" + k + ", 0, 2)", UNKNOWN, x -> x.nine(k, 0, 2));
      add("nine(0, " + k + ", 0)", UNKNOWN, x -> x.nine(0, k, 0));
      add("below(" + k + ", 0)", UNKNOWN, x -> x.below(k, 0));
      add("below(0, " + k + ")", UNKNOWN, x -> x.below(0, k));
      add("curve(15, " + k + ", 201)", UNKNOWN, x -> x.curve(15, k, 201));
    }
    add("begin(0, 0)", NOT, x -> x.begin(0, 0));
    for (int n : new int[] {LOW, -1, 0, 501, HIGH}) {
      add("go(" + n + ")", OUTSIDE, x -> x.go(n));
    }
    for (int b : new int[] {LOW, -1, 101, HIGH}) {
      add("notice(0, 0, " + b + ")", OUTSIDE, x -> x.notice(0, 0, b));
    }
    add("holds(0, 0, 5)", OUTSIDE, x -> x.holds(0, 0, 5));
    add("nine(0, 0, 2)", OUTSIDE, x -> x.nine(0, 0, 2));
    for (int set : new int[] {LOW, -1, 16, HIGH}) {
      add("curve(" + set + ", 0, 5)", UNKNOWN, x -> x.curve(set, 0, 5));
      add("curve(" + set + ", 0, 201)", UNKNOWN, x -> x.curve(set, 0, 201));
    }
    add("curve(15, 0, 201)", OUTSIDE, x -> x.curve(15, 0, 201));
    add("curve(15, 0, -1)", OUTSIDE, x -> x.curve(15, 0, -1));
  }

  private static void askedOfInterviews() {
    for (int k : new int[] {LOW, -1, 4, HIGH}) {
      add("ask(" + k + ", 0, 5)", UNKNOWN, x -> x.ask(k, 0, 5));
      add("ask(0, " + k + ", 5)", UNKNOWN, x -> x.ask(0, k, 5));
      add("ask(0, " + k + ", -1)", UNKNOWN, x -> x.ask(0, k, -1));
      add("end(" + k + ")", UNKNOWN, x -> x.end(k));
      add("best(" + k + ", 101, 0, 3)", UNKNOWN, x -> x.best(k, 101, 0, 3));
    }
    add("ask(3, 3, 5)", UNKNOWN, x -> x.ask(3, 3, 5));
    add("ask(3, -3, 5)", UNKNOWN, x -> x.ask(3, -3, 5));
    add("ask(3, 0, -1)", OUTSIDE, x -> x.ask(3, 0, -1));
    add("ask(0, 3, 10000)", OUTSIDE, x -> x.ask(0, 3, 10000));
    add("end(3)", NOT, x -> x.end(3));
    add("who(3)", OUTSIDE, x -> x.who(3));
    add("who(-1)", OUTSIDE, x -> x.who(-1));
    add("best(0, 101, 5, 0)", OUTSIDE, x -> x.best(0, 101, 5, 0));
    add("best(0, -1, 5, 0)", OUTSIDE, x -> x.best(0, -1, 5, 0));
    add("best(0, 50, 0, 0)", OUTSIDE, x -> x.best(0, 50, 0, 0));
    add("best(0, 50, 101, 0)", OUTSIDE, x -> x.best(0, 50, 101, 0));
    add("best(0, 50, 5, 3)", OUTSIDE, x -> x.best(0, 50, 5, 3));
    add("best(0, 50, 5, -1)", OUTSIDE, x -> x.best(0, 50, 5, -1));
  }

  private static void askedOfTheNet() {
    for (int k : new int[] {LOW, -1, 4, 10, HIGH}) {
      add("reach(" + k + ", 0, 13)", UNKNOWN, x -> x.reach(k, 0, 13));
      add("reach(0, " + k + ", 0)", UNKNOWN, x -> x.reach(0, k, 0));
      add("began(" + k + ", 0, 13)", UNKNOWN, x -> x.began(k, 0, 13));
    }
    for (int set : new int[] {LOW, -1, 16, 1024, HIGH}) {
      add("many(" + set + ", 13)", UNKNOWN, x -> x.many(set, 13));
      add("began(0, " + set + ", 0)", UNKNOWN, x -> x.began(0, set, 0));
    }
    for (int t : new int[] {LOW, -1, 13, HIGH}) {
      add("reach(0, 0, " + t + ")", OUTSIDE, x -> x.reach(0, 0, t));
      add("many(1, " + t + ")", OUTSIDE, x -> x.many(1, t));
      add("began(0, 1, " + t + ")", OUTSIDE, x -> x.began(0, 1, t));
      add("speak(1, " + t + ")", OUTSIDE, x -> x.speak(1, t));
    }
    add("speak(0, 0)", OUTSIDE, x -> x.speak(0, 0));
    add("speak(4, 0)", OUTSIDE, x -> x.speak(4, 0));
  }

  private static void askedOfTheLand() {
    for (int m : new int[] {LOW, -1, 12, HIGH}) {
      add("road(" + m + ", 0, 5)", OUTSIDE, x -> x.road(m, 0, 5));
      add("road(0, " + m + ", 5)", OUTSIDE, x -> x.road(0, m, 5));
      add("report(" + m + ", 5)", OUTSIDE, x -> x.report(m, 5));
    }
    add("road(3, 3, 5)", OUTSIDE, x -> x.road(3, 3, 5));
    add("road(0, 1, 31)", OUTSIDE, x -> x.road(0, 1, 31));
    add("road(0, 1, -1)", OUTSIDE, x -> x.road(0, 1, -1));
    add("report(0, 1000)", OUTSIDE, x -> x.report(0, 1000));
    add("report(5, -1)", OUTSIDE, x -> x.report(5, -1));
    add("source(0, 0)", OUTSIDE, x -> x.source(0, 0));
    add("source(21, 0)", OUTSIDE, x -> x.source(21, 0));
    add("source(10, 3)", OUTSIDE, x -> x.source(10, 3));
    add("source(10, -1)", OUTSIDE, x -> x.source(10, -1));
  }

  private static void askedOfImages() {
    for (int i : new int[] {LOW, -1, 2, HIGH}) {
      add("keep(" + i + ")", UNKNOWN, x -> x.keep(i));
      add("goBack(" + i + ")", UNKNOWN, x -> x.goBack(i));
    }
    add("goBack(1)", NOT, x -> x.goBack(1));
    add("seed(-1)", OUTSIDE, x -> x.seed(-1));
    add("seed(LOW)", OUTSIDE, x -> x.seed(LOW));
  }

  private static void hold(Consumer<TwoRumours> make) {
    TwoRumours untouched = new TwoRumours();
    make.accept(untouched);
    String due = readWhole(untouched);
    for (Refused one : ALL) {
      TwoRumours x = new TwoRumours();
      make.accept(x);
      Check.due(one.call, one.made.applyAsInt(x), one.due);
      Check.same("all that is so behind " + one.call, readWhole(x), due);
    }
  }

  /** All that an object tells, of its images and its text as well; it is used up by that. */
  private static String readWhole(TwoRumours x) {
    StringBuilder s = new StringBuilder();
    int persons = Math.min(4, x.count(0));
    int sayings = Math.min(4, x.count(2));
    s.append("fault ").append(x.fault()).append(' ');
    readCourse(x, s, persons, sayings);
    for (int p = 0; p < persons; p++) {
      for (int what = 0; what < 5; what++) {
        s.append(x.person(p, what)).append(' ');
      }
      s.append(x.tie(p, 0)).append(x.tie(p, 2)).append(" end ").append(x.end(p)).append(' ');
    }
    for (int k = 0; k < sayings; k++) {
      for (int what = 0; what < 3; what++) {
        s.append(x.saying(k, what)).append(' ');
      }
      s.append(x.pair(k, 0, 0)).append(' ').append(x.pair(k, 0, 1)).append(' ');
    }
    s.append("who ").append(x.who(0)).append(' ').append(x.who(1)).append(' ').append(x.who(2)).append(' ');
    s.append("net ").append(x.reach(0, 1, 3)).append(' ').append(x.many(1, 5)).append(' ').append(x.speak(1, 3)).append(' ');
    s.append("land ").append(x.source(10, 0)).append(' ').append(x.source(10, 1)).append(' ').append(x.source(10, 2)).append(' ');
    s.append(x.pace()).append(' ');
    for (int m = 0; m < 11; m++) {
      s.append(x.road(m, m + 1, 0)).append(' ').append(x.road(0, m + 1, 0)).append(' ');
    }
    s.append(x.silence()).append(' ');
    s.append("rules ").append(x.rule(0, 4)).append(' ').append(x.rule(1, 33)).append(' ');
    s.append("on ").append(x.go(5)).append(' ').append(x.holders(0)).append(' ').append(x.holders(3)).append(' ');
    for (int i = 0; i < 2; i++) {
      s.append("image ").append(x.goBack(i)).append(' ');
      readCourse(x, s, persons, 3);
    }
    s.append("text ").append(x.town()).append(' ').append(x.fault()).append(' ').append(x.person(0, 0));
    return s.toString();
  }

  private static void readCourse(TwoRumours x, StringBuilder s, int persons, int sayings) {
    for (int what = 0; what < 8; what++) {
      s.append(x.count(what)).append(' ');
    }
    s.append("seed ").append(Check.seedOf(x)).append(' ');
    for (int p = 0; p < persons; p++) {
      for (int k = 0; k < sayings; k++) {
        for (int what = 0; what < 5; what++) {
          s.append(x.holds(p, k, what)).append(' ');
        }
        s.append(x.way(p, k, -1)).append(' ');
      }
    }
    for (int k = 0; k < sayings; k++) {
      s.append(x.holders(k)).append(' ').append(x.curve(1, k, 9)).append(' ');
    }
  }
}
