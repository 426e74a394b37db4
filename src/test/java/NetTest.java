/** Promises 27 to 30: the small net, reckoned exactly. */
public final class NetTest {
  public static void main(String[] args) {
    reaching();
    stayingInOrder();
    partingInOrder();
    meaning();
    beginning();
    speaking();
    tenAlone();
    refusals();
    Check.end();
  }

  private static void reaching() {
    TwoRumours x = Check.with("person 100;person 33 silent;person 0;tie 0 1 7;tie 1 2 9;", "");
    // 7 times 33 / 10 is 23, cut: of a thousand 977 stay
    Check.due("0 steps", x.reach(0, 1, 0), 0);
    Check.due("oneself", x.reach(1, 1, 0), 1000000);
    Check.due("1 step", x.reach(0, 1, 1), 23000);
    Check.due("2 steps", x.reach(0, 1, 2), 45471);
    Check.due("the silent one tells", x.reach(1, 0, 1), 70000);
    Check.due("no heed", x.reach(1, 2, 12), 0);
    Check.due("through one without heed", x.reach(2, 1, 1), 29000);
    Check.due("0 from 2 in 2", x.reach(2, 0, 2), 2030);
  }

  private static void stayingInOrder() {
    // 0 is told by 1, 2, 3: with 91, 82 and 37 of a thousand, cut each time, in order of persons
    TwoRumours x = Check.with("person 91;person 0;person 0;person 0;tie 0 3 4;tie 0 1 9;tie 0 2 7;", "");
    int stays = 1000;
    for (int strength : new int[] {9, 7, 4}) {
      stays = stays * (1000 - strength * 91 / 10) / 1000;
    }
    Check.due("many of three", x.many(14, 1), 3000 + 1000 - stays);
  }

  private static void partingInOrder() {
    // from 2 to 0 and 1: first 0, then 1, what is told cut each time
    TwoRumours x = Check.with("person 77;person 33;person 0;tie 0 2 9;tie 1 2 7;", "");
    long zero = 1000000000L * 69 / 1000;
    long both = zero * 23 / 1000;
    long one = (1000000000L - zero) * 23 / 1000;
    Check.due("0", x.reach(2, 0, 1), zero / 1000);
    Check.due("1", x.reach(2, 1, 1), (both + one) / 1000);
    Check.due("began by 2, just 0 and 2", x.began(2, 5, 1), 1000000L);
  }

  private static void meaning() {
    TwoRumours x = Check.with("person 50;person 50;person 50;tie 0 1 9;tie 1 2 9;", "");
    Check.due("nobody", x.many(0, 12), 0);
    Check.due("one", x.many(1, 0), 1000);
    Check.due("all", x.many(7, 5), 3000);
    Check.due("one step", x.many(1, 1), 1045);
    Check.due("from the middle", x.many(2, 1), 1090);
    Check.due("two", x.many(5, 1), 2088);
  }

  private static void beginning() {
    TwoRumours x = Check.with("person 100;person 50;tie 0 1 8;", "");
    // 0 tells 1 with 40, 1 tells 0 with 80 of a thousand
    Check.due("by 0", x.began(0, 3, 1), 333333);
    Check.due("by 1", x.began(1, 3, 1), 666666);
    Check.due("just itself", x.began(0, 1, 4), 1000000);
    Check.due("not the other", x.began(1, 1, 4), 0);
    Check.due("nobody is told: a sum of 0", x.began(0, 0, 3), 0);
    Check.due("at once, both: a sum of 0", x.began(0, 3, 0), 0);
  }

  private static void speaking() {
    TwoRumours x = Check.with("person 50;person 50;person 50;person 50;tie 1 0 5;tie 1 2 5;tie 1 3 5;", "");
    Check.due("the middle", x.speak(1, 1), 2);
    Check.due("of like ones the least set", x.speak(1, 0), 1);
    Check.due("with the middle", x.speak(2, 1), 3);
    Check.due("three", x.speak(3, 0), 7);
    TwoRumours y = Check.with("person 50;person 50;", "");
    Check.due("fewer", y.speak(3, 1), Check.NONE);
    Check.due("just so many", y.speak(2, 12), 3);
    Check.due("OUTSIDE ahead of fewer", y.speak(3, 13), Check.OUTSIDE);
  }

  private static void tenAlone() {
    TwoRumours x = Check.with("person 100;".repeat(12) + "tie 0 11 9;tie 11 9 9;tie 10 9 9;", "");
    Check.due("10 is not of the net", x.reach(10, 0, 1), Check.UNKNOWN);
    Check.due("nor to it", x.reach(0, 10, 1), Check.UNKNOWN);
    Check.due("9 is", x.reach(0, 9, 12), 0);
    Check.due("all ten", x.many(1023, 1), 10000);
    Check.due("bit 10", x.many(1024, 1), Check.UNKNOWN);
    Check.due("three", x.speak(3, 12), 7);
    Check.town(x, "person 100;person 100;tie 0 1 9;");
    Check.due("a new town is reckoned anew", x.reach(0, 1, 1), 90000);
  }

  private static void refusals() {
    TwoRumours x = Check.with("person 50;person 50;tie 0 1 9;", "");
    Check.due("reach(2, 0, 13)", x.reach(2, 0, 13), Check.UNKNOWN);
    Check.due("reach(0, -1, 0)", x.reach(0, -1, 0), Check.UNKNOWN);
    Check.due("reach(0, 1, 13)", x.reach(0, 1, 13), Check.OUTSIDE);
    Check.due("reach(0, 1, -1)", x.reach(0, 1, -1), Check.OUTSIDE);
    Check.due("many(4, 13)", x.many(4, 13), Check.UNKNOWN);
    Check.due("many(-1, 0)", x.many(-1, 0), Check.UNKNOWN);
    Check.due("many(3, 13)", x.many(3, 13), Check.OUTSIDE);
    Check.due("many(3, -1)", x.many(3, -1), Check.OUTSIDE);
    Check.due("began(2, 0, 0)", x.began(2, 0, 0), Check.UNKNOWN);
    Check.due("began(0, 4, 0)", x.began(0, 4, 0), Check.UNKNOWN);
    Check.due("began(0, -4, 13)", x.began(0, -4, 13), Check.UNKNOWN);
    Check.due("began(0, 3, 13)", x.began(0, 3, 13), Check.OUTSIDE);
    Check.due("speak(0, 0)", x.speak(0, 0), Check.OUTSIDE);
    Check.due("speak(4, 0)", x.speak(4, 0), Check.OUTSIDE);
    Check.due("speak(1, -1)", x.speak(1, -1), Check.OUTSIDE);
  }
}
