/** Promises 27 to 30 and THE NET of part 4: each sentence that names an edge has a method of its own. */
public final class EdgesOfNetTest {
  private static final int LOW = Integer.MIN_VALUE, HIGH = Integer.MAX_VALUE;

  public static void main(String[] args) {
    netOfNobody();
    netOfOne();
    netOfTen();
    netOfMoreThanTen();
    tellsAllSilentToo();
    heedAtItsEnds();
    strengthTimesHeedIsCut();
    stayingIsCutEachTime();
    oddsAreCutEachTime();
    oddsOfABillion();
    oddsTooSmallStayUntold();
    steps0To12();
    reachIsCutAtTheEnd();
    reachRefusals();
    manyOfNobodyAndAll();
    manyIsCut();
    oneOfABillionShort();
    manyRefusals();
    beganOfASumOfZero();
    beganOfJustTheSet();
    beganIsCut();
    beganRefusals();
    speakOneToThree();
    speakToFewer();
    speakOfLikeOnes();
    speakByManyAsCut();
    speakRefusals();
    netIsReckonedAnew();
    Check.end();
  }

  // "THE NET are PERSONS 0 to 9 (as many as there are)"
  private static void netOfNobody() {
    TwoRumours x = new TwoRumours();
    Check.due("reach", x.reach(0, 0, 0), Check.UNKNOWN);
    Check.due("many of nobody", x.many(0, 0), 0);
    Check.due("many of nobody", x.many(0, 12), 0);
    Check.due("many of one", x.many(1, 0), Check.UNKNOWN);
    Check.due("began", x.began(0, 0, 0), Check.UNKNOWN);
    for (int k = 1; k <= 3; k++) {
      Check.due("speak to " + k, x.speak(k, 0), Check.NONE);
    }
  }

  private static void netOfOne() {
    TwoRumours x = Check.with("person100;", "");
    Check.due("reach", x.reach(0, 0, 12), 1000000);
    Check.due("no second", x.reach(0, 1, 0), Check.UNKNOWN);
    Check.due("many", x.many(1, 12), 1000);
    Check.due("no second", x.many(2, 0), Check.UNKNOWN);
    Check.due("began", x.began(0, 1, 12), 1000000);
    Check.due("nobody is told", x.began(0, 0, 12), 0);
    Check.due("speak to one", x.speak(1, 12), 1);
    Check.due("to two", x.speak(2, 12), Check.NONE);
  }

  private static String row(int persons, String one) {
    StringBuilder text = new StringBuilder(one.repeat(persons));
    for (int p = 0; p + 1 < persons; p++) {
      text.append("tie").append(p).append(' ').append(p + 1).append(" 9;");
    }
    return text.toString();
  }

  private static void netOfTen() {
    TwoRumours x = Check.with(row(10, "person100;"), "");
    Check.due("the last from the last but one", x.reach(8, 9, 1), 90000);
    Check.due("nobody is told nine ties off in eight steps", x.reach(0, 9, 8), 0);
    Check.due("two ties off in two steps", x.reach(0, 2, 2), 8100);
    Check.due("all ten", x.many(1023, 12), 10000);
    Check.due("an eleventh", x.reach(0, 10, 0), Check.UNKNOWN);
    Check.due("an eleventh", x.many(1024, 0), Check.UNKNOWN);
    Check.due("began", x.began(9, 1 << 9, 0), 1000000);
    Check.due("three of ten at once", x.speak(3, 0), 7);
  }

  private static void netOfMoreThanTen() {
    TwoRumours x = Check.with(row(12, "person100;") + "tie9 11 9;tie0 11 9;tie0 10 9;", "");
    Check.due("there are twelve", x.count(0), 12);
    Check.due("10 is not of it", x.reach(10, 0, 0), Check.UNKNOWN);
    Check.due("nor to 10", x.reach(0, 10, 0), Check.UNKNOWN);
    Check.due("bit 10", x.many(1 << 10, 0), Check.UNKNOWN);
    Check.due("bit 11", x.many(1 << 11, 0), Check.UNKNOWN);
    Check.due("began by 10", x.began(10, 1, 0), Check.UNKNOWN);
    Check.due("began of bit 10", x.began(0, 1 << 10, 0), Check.UNKNOWN);
    Check.due("9 cannot be told over 10 or 11", x.reach(0, 9, 2), 0);
    Check.due("ten of ten", x.many(1023, 1), 10000);
  }

  // "each one who is told tells all it is tied with (silent ones too)"
  private static void tellsAllSilentToo() {
    TwoRumours x = Check.with("person100silent;person100;person100silent;tie0 1 9;tie0 2 9;", "");
    Check.due("to one", x.reach(0, 1, 1), 90000);
    Check.due("to the other", x.reach(0, 2, 1), 90000);
    Check.due("both", x.many(1, 1), 1180);
  }

  // "one of HEED H stays untold"
  private static void heedAtItsEnds() {
    TwoRumours x = Check.with("person0;person100;tie0 1 9;", "");
    Check.due("heed 0", x.reach(1, 0, 12), 0);
    Check.due("heed 100", x.reach(0, 1, 1), 90000);
    TwoRumours apart = Check.with("person100;person100;", "");
    Check.due("no tie", apart.reach(0, 1, 12), 0);
  }

  // "(1000 less strength times H / 10, cut)"
  private static void strengthTimesHeedIsCut() {
    int[][] cases = {{1, 9, 0}, {1, 10, 1}, {1, 19, 1}, {9, 1, 0}, {9, 2, 1}, {9, 99, 89}, {9, 100, 90}, {7, 33, 23}};
    for (int[] one : cases) {
      TwoRumours x = Check.with("person0;person" + one[1] + ";tie0 1 " + one[0] + ";", "");
      Check.due("strength " + one[0] + " heed " + one[1], x.reach(0, 1, 1), one[2] * 1000);
    }
  }

  // "1000, for each in order times ... / 1000 (cut)": 910 910 -> 828, 753, 685
  private static void stayingIsCutEachTime() {
    TwoRumours x = Check.with("person100;person0;person0;person0;person0;tie0 1 9;tie0 2 9;tie0 3 9;tie0 4 9;", "");
    Check.due("of one", x.many(2, 1), 1000 + 90);
    Check.due("of two", x.many(6, 1), 2000 + 1000 - 828);
    Check.due("of three", x.many(14, 1), 3000 + 1000 - 753);
    Check.due("of four", x.many(30, 1), 4000 + 1000 - 685);
  }

  // "parted in told (these odds times (1000 less what stays) / 1000, cut) and untold (what is left)"
  private static void oddsAreCutEachTime() {
    TwoRumours x = Check.with("person0;person10;tie0 1 1;", "");
    // of a billion one of a thousand each step: 1000000, 1999000, 2997001, then 2997001 and 997002(.999 cut)
    long untold = 1000000000L;
    for (int t = 0; t <= 12; t++) {
      Check.due("behind " + t, x.reach(0, 1, t), (1000000000L - untold) / 1000);
      Check.due("many behind " + t, x.many(1, t), (1000000000L + 1000000000L - untold) / 1000000);
      untold -= untold / 1000;
    }
  }

  // "of a BILLION: from one SET all at first": by all strengths and heeds, the last figure of REACH too
  private static void oddsOfABillion() {
    for (int strength = 1; strength <= 9; strength++) {
      for (int heed = 0; heed <= 100; heed++) {
        TwoRumours x = Check.with("person0;person" + heed + ";tie0 1 " + strength + ";", "");
        long untold = 1000000000L;
        for (int t = 1; t <= 12; t++) {
          untold -= untold * (strength * heed / 10) / 1000;
          Check.due("strength " + strength + " heed " + heed + " behind " + t, x.reach(0, 1, t), (1000000000L - untold) / 1000);
        }
      }
    }
  }

  // odds below a thousand times one of a thousand are cut to 0
  private static void oddsTooSmallStayUntold() {
    TwoRumours x = Check.with(row(5, "person10;").replace(" 9;", " 1;"), "");
    // 0 tells 1 a million, 1 tells 2 a thousand, 2 tells 3 one, 3 tells 4 none of a billion
    Check.due("just 0, 1, 2, 3 behind three steps: by 0 one of a billion", x.began(0, 15, 3) > 0 ? 1 : 0, 1);
    Check.due("just all behind four: by 0 none, as it is cut", x.began(0, 31, 4), 0);
    Check.due("nor by the other end", x.began(4, 31, 4), 0);
  }

  // "behind t steps (0 .. 12)"
  private static void steps0To12() {
    TwoRumours x = Check.with("person0;person100;tie0 1 9;", "");
    Check.due("0 steps", x.reach(0, 1, 0), 0);
    Check.due("0 steps, itself", x.reach(0, 0, 0), 1000000);
    long untold = 1000000000L;
    for (int t = 0; t < 12; t++) {
      untold -= untold * 90 / 1000;
    }
    Check.due("12 steps", x.reach(0, 1, 12), (1000000000L - untold) / 1000);
    for (int t : new int[] {LOW, -1, 13, HIGH}) {
      Check.due("reach " + t, x.reach(0, 1, t), Check.OUTSIDE);
      Check.due("many " + t, x.many(1, t), Check.OUTSIDE);
      Check.due("began " + t, x.began(0, 1, t), Check.OUTSIDE);
      Check.due("speak " + t, x.speak(1, t), Check.OUTSIDE);
    }
  }

  // "(ODDS / 1000, cut at the end)": the sum, not each SET's odds
  private static void reachIsCutAtTheEnd() {
    TwoRumours x = Check.with("person0;person77;person33;tie0 1 9;tie0 2 7;", "");
    long one = 0;
    long both = 0;
    long other = 0;
    long none = 1000000000L;
    for (int t = 0; t < 3; t++) {
      long toBoth = none * 69 / 1000 * 23 / 1000;
      long toOne = none * 69 / 1000 - toBoth;
      long toOther = (none - none * 69 / 1000) * 23 / 1000;
      long fromOne = one * 23 / 1000;
      long fromOther = other * 69 / 1000;
      both += toBoth + fromOne + fromOther;
      one += toOne - fromOne;
      other += toOther - fromOther;
      none = 1000000000L - both - one - other;
      Check.due("1 behind " + (t + 1), x.reach(0, 1, t + 1), (one + both) / 1000);
      Check.due("2 behind " + (t + 1), x.reach(0, 2, t + 1), (other + both) / 1000);
    }
  }

  // "reach ... UNKNOWN, OUTSIDE"
  private static void reachRefusals() {
    TwoRumours x = Check.with("person0;person0;", "");
    for (int p : new int[] {LOW, -1, 2, 10, HIGH}) {
      Check.due("from " + p, x.reach(p, 0, 0), Check.UNKNOWN);
      Check.due("to " + p, x.reach(0, p, 0), Check.UNKNOWN);
      Check.due("UNKNOWN ahead of OUTSIDE", x.reach(1, p, 13), Check.UNKNOWN);
    }
    Check.due("the last of both", x.reach(1, 1, 0), 1000000);
  }

  private static void manyOfNobodyAndAll() {
    TwoRumours x = Check.with("person100;person100;person100;tie0 1 9;tie1 2 9;", "");
    Check.due("nobody", x.many(0, 12), 0);
    Check.due("all at first", x.many(7, 0), 3000);
    Check.due("all behind 12", x.many(7, 12), 3000);
    Check.due("the last", x.many(4, 0), 1000);
  }

  // "(the sum over SETS of ODDS times how many, / MILLION, cut)"
  private static void manyIsCut() {
    TwoRumours x = Check.with("person0;person10;person10;tie0 1 1;tie0 2 1;", "");
    // each is told by one of a thousand: 1 of 1000 both; 1.001999 and on behind two steps
    Check.due("one step", x.many(1, 1), 1002);
    Check.due("two steps: 1003.998", x.many(1, 2), 1003);
  }

  // one more of a billion at first, or in the sum, would come to the next number
  private static void oneOfABillionShort() {
    TwoRumours x = Check.with("person8;person66;person90;tie0 1 8;tie0 2 4;", "");
    // 52 and 36 of a thousand, two steps: 101296000 and 70703999 are told beside the one
    Check.due("1171999999 of a billion", x.many(1, 2), 1171);
    Check.due("101296000", x.reach(0, 1, 2), 101296);
    Check.due("70703999", x.reach(0, 2, 2), 70703);
    TwoRumours y = Check.with("person63;person58;person86;tie0 1 9;tie0 2 9;", "");
    // 52 and 77 of a thousand, eight steps: 473238999
    Check.due("473238999 of a billion", y.reach(0, 2, 8), 473238);
  }

  // "many ... UNKNOWN, OUTSIDE"; UNKNOWN: "bits of such"
  private static void manyRefusals() {
    TwoRumours x = Check.with("person0;person0;", "");
    for (int set : new int[] {LOW, -1, 4, 5, 1 << 10, 1 << 30, HIGH}) {
      Check.due("set " + set, x.many(set, 0), Check.UNKNOWN);
      Check.due("UNKNOWN ahead of OUTSIDE", x.many(set, 13), Check.UNKNOWN);
    }
    Check.due("both", x.many(3, 0), 2000);
  }

  // "0 of a sum 0"
  private static void beganOfASumOfZero() {
    TwoRumours x = Check.with("person100;person100;person0;tie0 1 9;", "");
    Check.due("nobody is told", x.began(0, 0, 0), 0);
    Check.due("nobody is told", x.began(0, 0, 12), 0);
    Check.due("two at once", x.began(0, 3, 0), 0);
    Check.due("two without a way", x.began(0, 5, 12), 0);
    Check.due("all", x.began(2, 7, 12), 0);
  }

  // "if just a told SET is told behind t steps"
  private static void beganOfJustTheSet() {
    TwoRumours x = Check.with("person100;person50;tie0 1 8;", "");
    Check.due("itself behind none", x.began(0, 1, 0), 1000000);
    Check.due("itself behind twelve", x.began(0, 1, 12), 1000000);
    Check.due("not the other", x.began(1, 1, 12), 0);
    Check.due("both, by 0", x.began(0, 3, 1), 40 * 1000000 / 120);
    Check.due("both, by 1", x.began(1, 3, 1), 80 * 1000000 / 120);
  }

  // "(MILLION times its ODDS / the sum)": each is cut
  private static void beganIsCut() {
    TwoRumours x = Check.with("person100;person100;person100;tie0 1 9;tie1 2 9;tie0 2 9;", "");
    for (int p = 0; p < 3; p++) {
      Check.due("a third by " + p, x.began(p, 7, 0), 0);
    }
    int sum = 0;
    for (int p = 0; p < 3; p++) {
      sum += x.began(p, 7, 1);
    }
    Check.due("three thirds, cut", sum, 999999);
  }

  // "began ... UNKNOWN, OUTSIDE"
  private static void beganRefusals() {
    TwoRumours x = Check.with("person0;person0;", "");
    for (int p : new int[] {LOW, -1, 2, 10, HIGH}) {
      Check.due("by " + p, x.began(p, 1, 0), Check.UNKNOWN);
      Check.due("UNKNOWN ahead of OUTSIDE", x.began(p, 1, 13), Check.UNKNOWN);
    }
    for (int set : new int[] {LOW, -1, 4, 1 << 10, HIGH}) {
      Check.due("set " + set, x.began(0, set, 0), Check.UNKNOWN);
      Check.due("UNKNOWN ahead of OUTSIDE", x.began(1, set, -1), Check.UNKNOWN);
    }
    Check.due("the last of both", x.began(1, 2, 0), 1000000);
  }

  // "the SET of k PERSONS (1 .. 3)"
  private static void speakOneToThree() {
    TwoRumours x = Check.with("person100;".repeat(5) + "tie4 0 9;tie4 1 9;tie4 2 9;", "");
    Check.due("one: who has most ties", x.speak(1, 1), 16);
    Check.due("two: and the one without", x.speak(2, 1), 24);
    // the three that tell 4 bring 247 to the 180 that 4 and another bring
    Check.due("three: those who all tell the one", x.speak(3, 1), 7);
    for (int k : new int[] {LOW, -1, 0, 4, 5, HIGH}) {
      Check.due("k " + k, x.speak(k, 1), Check.OUTSIDE);
    }
  }

  // "NONE: THE NET has fewer"
  private static void speakToFewer() {
    TwoRumours two = Check.with("person100;person100;", "");
    Check.due("two of two", two.speak(2, 12), 3);
    Check.due("three of two", two.speak(3, 12), Check.NONE);
    Check.due("OUTSIDE ahead of it", two.speak(3, 13), Check.OUTSIDE);
    Check.due("OUTSIDE ahead of it", two.speak(4, 0), Check.OUTSIDE);
    TwoRumours three = Check.with("person100;person100;person100;", "");
    Check.due("three of three", three.speak(3, 0), 7);
  }

  // "of like ones the least SET"
  private static void speakOfLikeOnes() {
    TwoRumours x = Check.with("person100;".repeat(10) + "tie8 9 9;", "");
    Check.due("at once all are alike", x.speak(1, 0), 1);
    Check.due("two", x.speak(2, 0), 3);
    Check.due("three", x.speak(3, 0), 7);
    Check.due("8 and 9 are alike", x.speak(1, 1), 1 << 8);
    Check.due("8 with the least", x.speak(2, 1), 1 << 8 | 1);
    Check.due("8 with the two least", x.speak(3, 12), 1 << 8 | 3);
  }

  // MANY is in thousandths, cut: sets that differ by less are alike
  private static void speakByManyAsCut() {
    TwoRumours x = Check.with("person0;person10;person10;person10;tie0 1 1;tie2 3 1;", "");
    // 0 tells 1 by a thousandth, 2 and 3 one another: 1001 each, so 0 is the least
    Check.due("one step", x.speak(1, 1), 1);
    Check.due("1001", x.many(1, 1), 1001);
    Check.due("1001", x.many(4, 1), 1001);
    TwoRumours y = Check.with("person0;person10;person0;person11;tie0 1 9;tie2 3 9;", "");
    // 9 times 10 / 10 is 9, 9 times 11 / 10 is 9, cut
    Check.due("alike by the cut", y.speak(1, 12), 1);
  }

  // "speak ... OUTSIDE"
  private static void speakRefusals() {
    TwoRumours x = Check.with("person0;person0;person0;", "");
    for (int t : new int[] {LOW, -1, 13, HIGH}) {
      Check.due("t " + t, x.speak(1, t), Check.OUTSIDE);
      Check.due("both", x.speak(0, t), Check.OUTSIDE);
    }
    Check.due("12", x.speak(1, 12), 1);
  }

  private static void netIsReckonedAnew() {
    TwoRumours x = Check.with("person0;person100;tie0 1 9;", "");
    Check.due("first", x.reach(0, 1, 1), 90000);
    Check.due("a fault leaves it", Check.town(x, "person0;person50;tie0 1 9;x"), -11);
    Check.due("as it was", x.reach(0, 1, 1), 90000);
    Check.town(x, "person0;person50;tie0 1 9;");
    Check.due("then", x.reach(0, 1, 1), 45000);
    Check.town(x, "person0;person50;");
    Check.due("no tie", x.reach(0, 1, 1), 0);
    Check.town(x, "");
    Check.due("nobody", x.many(1, 0), Check.UNKNOWN);
  }
}
