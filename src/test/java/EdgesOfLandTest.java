/** Promises 31 to 35 and THE LAND of part 4: each sentence that names an edge has a method of its own. */
public final class EdgesOfLandTest {
  private static final int LOW = Integer.MIN_VALUE, HIGH = Integer.MAX_VALUE;

  public static void main(String[] args) {
    roadsNoneAtFirst();
    roadOf1To30Days();
    roadTakenAway();
    roadOfTwoUnlikeMarkets();
    roadEitherWay();
    reportDay0To999();
    reportNewerCounts();
    reportsOfAll();
    reportRefusals();
    silenceOfNoneAndAll();
    farnessIsTheLeastSum();
    farnessIsCutOfTheSum();
    farnessOfTheLongestWay();
    farnessOfItselfIsNone();
    sourcePace1To20();
    sourceDayIsTheLatest();
    sourceDayBelowZero();
    sourceOfLikeOnes();
    sourceMayNotReport();
    sourceWithoutWays();
    sourceWithoutReports();
    sourceRefusals();
    paceOfLikeOnes();
    paceAtItsEnds();
    paceNone();
    landStaysWithTheTown();
    Check.end();
  }

  // "ROADS of days between two (none at first)"
  private static void roadsNoneAtFirst() {
    TwoRumours x = new TwoRumours();
    for (int a = 0; a < 12; a++) {
      for (int b = 0; b < 12; b++) {
        if (a != b) {
          Check.due("none " + a + " " + b, x.road(a, b, 0), 0);
        }
      }
    }
  }

  // "A ROAD of d days (1 .. 30 ...): how many there were before"
  private static void roadOf1To30Days() {
    TwoRumours x = new TwoRumours();
    Check.due("1", x.road(0, 1, 1), 0);
    Check.due("30", x.road(0, 1, 30), 1);
    for (int d : new int[] {LOW, -30, -1, 31, HIGH}) {
      Check.due("d " + d, x.road(0, 1, d), Check.OUTSIDE);
    }
    Check.due("30 stayed", x.road(0, 1, 2), 30);
  }

  // "0: there is none any more"
  private static void roadTakenAway() {
    TwoRumours x = new TwoRumours();
    x.road(0, 1, 5);
    x.report(0, 3);
    x.report(1, 8);
    Check.due("a way", x.source(10, 0), 0);
    Check.due("taken away", x.road(0, 1, 0), 5);
    Check.due("no way any more", x.source(10, 0), Check.NONE);
    Check.due("there was none", x.road(0, 1, 0), 0);
    Check.due("there was none", x.road(0, 1, 7), 0);
    Check.due("a way again", x.source(1, 0), 0);
  }

  // "between two unlike MARKETS"; "MARKETS 0 to 11"
  private static void roadOfTwoUnlikeMarkets() {
    TwoRumours x = new TwoRumours();
    for (int a = 0; a < 12; a++) {
      Check.due("of " + a + " with itself", x.road(a, a, 5), Check.OUTSIDE);
      Check.due("none of it is taken away", x.road(a, a, 0), Check.OUTSIDE);
    }
    for (int m : new int[] {LOW, -1, 12, HIGH}) {
      Check.due("from " + m, x.road(m, 0, 5), Check.OUTSIDE);
      Check.due("to " + m, x.road(0, m, 5), Check.OUTSIDE);
      Check.due("both", x.road(m, m, 31), Check.OUTSIDE);
    }
    Check.due("0 and 11", x.road(0, 11, 5), 0);
    Check.due("11 and 10", x.road(11, 10, 5), 0);
  }

  private static void roadEitherWay() {
    TwoRumours x = new TwoRumours();
    x.road(11, 0, 7);
    Check.due("the other way", x.road(0, 11, 9), 7);
    Check.due("and back", x.road(11, 0, 0), 9);
    Check.due("none", x.road(0, 11, 0), 0);
  }

  // "DAY 0 .. 999"
  private static void reportDay0To999() {
    TwoRumours x = new TwoRumours();
    Check.due("0", x.report(0, 0), 1);
    Check.due("day 0", x.source(10, 1), 1000);
    Check.due("999", x.report(0, 999), 1);
    Check.due("day 999", x.source(10, 1), 1999);
    for (int day : new int[] {LOW, -1, 1000, HIGH}) {
      Check.due("day " + day, x.report(0, day), Check.OUTSIDE);
    }
    Check.due("999 stayed", x.source(10, 1), 1999);
  }

  // "of a MARKET the newer one counts"
  private static void reportNewerCounts() {
    TwoRumours x = new TwoRumours();
    x.report(4, 50);
    Check.due("still one", x.report(4, 20), 1);
    Check.due("the newer, earlier one", x.source(10, 1), 1020);
    Check.due("still one", x.report(4, 70), 1);
    Check.due("the newer, later one", x.source(10, 1), 1070);
    Check.due("one", x.silence(), 1);
  }

  // "how many there are"
  private static void reportsOfAll() {
    TwoRumours x = new TwoRumours();
    for (int m = 0; m < 12; m++) {
      Check.due("report of " + m, x.report(m, m), m + 1);
    }
    Check.due("again", x.report(0, 5), 12);
  }

  // "report ... OUTSIDE"
  private static void reportRefusals() {
    TwoRumours x = new TwoRumours();
    for (int m : new int[] {LOW, -1, 12, HIGH}) {
      Check.due("market " + m, x.report(m, 5), Check.OUTSIDE);
      Check.due("both", x.report(m, 1000), Check.OUTSIDE);
    }
    Check.due("none came", x.silence(), 0);
  }

  // "No REPORTS: how many there were"
  private static void silenceOfNoneAndAll() {
    TwoRumours x = new TwoRumours();
    Check.due("none", x.silence(), 0);
    x.road(0, 1, 3);
    for (int m = 0; m < 12; m++) {
      x.report(m, 9);
    }
    Check.due("all", x.silence(), 12);
    Check.due("none any more", x.silence(), 0);
    Check.due("roads stay", x.road(0, 1, 3), 3);
    Check.due("counted anew", x.report(11, 1), 1);
  }

  // "the least sum of days of ROADS from the one to the other"
  private static void farnessIsTheLeastSum() {
    TwoRumours x = new TwoRumours();
    x.road(0, 11, 30);
    x.road(0, 5, 10);
    x.road(5, 11, 10);
    x.report(0, 100);
    x.report(11, 120);
    Check.due("over 5: 20 days", x.source(10, 2), 0);
    Check.due("from 0", x.source(10, 0), 0);
    x.road(0, 11, 20);
    Check.due("both alike", x.source(10, 2), 0);
    x.road(0, 11, 19);
    Check.due("straight: 19, one day late", x.source(10, 2), 1);
    // a way over all of them, each road of one day, against one of 12
    TwoRumours y = new TwoRumours();
    y.road(0, 11, 12);
    for (int m = 0; m < 11; m++) {
      y.road(m, m + 1, 1);
    }
    y.report(0, 0);
    y.report(11, 11);
    Check.due("over all others: 11 days", y.source(10, 2), 0);
  }

  // "times PACE / 10 (cut)"
  private static void farnessIsCutOfTheSum() {
    TwoRumours x = new TwoRumours();
    x.road(0, 1, 9);
    x.road(1, 2, 9);
    x.report(0, 100);
    for (int pace = 1; pace <= 20; pace++) {
      x.report(2, 100 + 18 * pace / 10);
      Check.due("18 days by " + pace, x.source(pace, 2), 0);
      Check.due("from 0, to the day", x.source(pace, 1), 1100);
    }
  }

  private static TwoRumours longest() {
    TwoRumours x = new TwoRumours();
    for (int m = 0; m < 11; m++) {
      x.road(m, m + 1, 30);
    }
    return x;
  }

  private static void farnessOfTheLongestWay() {
    TwoRumours x = longest();
    x.report(0, 0);
    x.report(11, 660);
    Check.due("330 days by 20 tenths", x.source(20, 2), 0);
    Check.due("from 0", x.source(20, 0), 0);
    Check.due("on day 0", x.source(20, 1), 1000);
    x.report(11, 661);
    // a day later by 0, but to the day by none: one day
    Check.due("one day late", x.source(20, 2), 1);
  }

  private static void farnessOfItselfIsNone() {
    TwoRumours x = new TwoRumours();
    x.report(7, 500);
    Check.due("itself", x.source(20, 0), 7);
    Check.due("its day", x.source(20, 1), 1500);
    Check.due("not late", x.source(20, 2), 0);
  }

  // "By a PACE (1 to 20 tenths)"
  private static void sourcePace1To20() {
    TwoRumours x = new TwoRumours();
    x.road(0, 1, 10);
    x.report(0, 100);
    x.report(1, 101);
    Check.due("by 1: a day", x.source(1, 2), 0);
    x.report(1, 120);
    Check.due("by 20: twenty days", x.source(20, 2), 0);
    for (int pace : new int[] {LOW, -1, 0, 21, HIGH}) {
      Check.due("pace " + pace, x.source(pace, 0), Check.OUTSIDE);
    }
  }

  // "the latest DAY by which no REPORT is ahead of that DAY and its FARNESS"
  private static void sourceDayIsTheLatest() {
    TwoRumours x = new TwoRumours();
    x.road(0, 1, 5);
    x.road(0, 2, 7);
    x.report(1, 50);
    x.report(2, 60);
    // by 0: 45 and 53, so 45; late 8. By 1: 50 and 48, so 48; late 2. By 2: 38 and 60; late 22
    Check.due("by 1", x.source(10, 0), 1);
    Check.due("on 48", x.source(10, 1), 1048);
    Check.due("late", x.source(10, 2), 2);
  }

  // "the DAY and 1000"
  private static void sourceDayBelowZero() {
    TwoRumours x = longest();
    x.report(0, 0);
    x.report(11, 0);
    // by each market its nearer end is late by the difference: by 5, 150 and 180 days by 20 tenths
    Check.due("in the middle", x.source(20, 0), 5);
    Check.due("day -360", x.source(20, 1), 640);
    Check.due("late", x.source(20, 2), 60);
    x.silence();
    x.report(11, 0);
    Check.due("of like ones the least", x.source(20, 0), 0);
    Check.due("day -660", x.source(20, 1), 340);
  }

  // "of like ones the least MARKET"
  private static void sourceOfLikeOnes() {
    TwoRumours x = new TwoRumours();
    x.road(4, 9, 6);
    x.report(9, 30);
    Check.due("4 and 9 are alike", x.source(10, 0), 4);
    Check.due("its day", x.source(10, 1), 1024);
    x.road(9, 2, 30);
    Check.due("2 too", x.source(10, 0), 2);
    Check.due("its day", x.source(10, 1), 1000);
  }

  private static void sourceMayNotReport() {
    TwoRumours x = new TwoRumours();
    x.road(5, 1, 10);
    x.road(5, 2, 10);
    x.road(5, 3, 10);
    x.report(1, 40);
    x.report(2, 40);
    x.report(3, 40);
    Check.due("the middle, that does not report", x.source(10, 0), 5);
    Check.due("on 30", x.source(10, 1), 1030);
    x.report(5, 29);
    Check.due("ahead of that day", x.source(10, 1), 1029);
    Check.due("the others are late", x.source(10, 2), 3);
  }

  // "NONE: no MARKET has ways to all that REPORT"
  private static void sourceWithoutWays() {
    TwoRumours x = new TwoRumours();
    x.report(0, 5);
    x.report(1, 5);
    for (int what = 0; what < 3; what++) {
      Check.due("what " + what, x.source(10, what), Check.NONE);
    }
    x.road(0, 2, 1);
    x.road(1, 3, 1);
    Check.due("two parts", x.source(10, 0), Check.NONE);
    x.road(2, 3, 1);
    Check.due("one part: 2 is a day nearer to 0 than to 1", x.source(10, 0), 2);
    x.report(11, 5);
    Check.due("one apart", x.source(10, 0), Check.NONE);
  }

  // "or there are no REPORTS"
  private static void sourceWithoutReports() {
    TwoRumours x = new TwoRumours();
    x.road(0, 1, 1);
    for (int what = 0; what < 3; what++) {
      Check.due("what " + what, x.source(10, what), Check.NONE);
    }
    x.report(0, 1);
    Check.due("one", x.source(10, 0), 0);
    x.silence();
    Check.due("none any more", x.source(10, 0), Check.NONE);
  }

  // "source ... OUTSIDE"
  private static void sourceRefusals() {
    TwoRumours x = new TwoRumours();
    for (int what : new int[] {LOW, -1, 3, HIGH}) {
      Check.due("OUTSIDE ahead of NONE", x.source(10, what), Check.OUTSIDE);
    }
    Check.due("OUTSIDE ahead of NONE", x.source(0, 0), Check.OUTSIDE);
    Check.due("OUTSIDE ahead of NONE", x.source(21, 0), Check.OUTSIDE);
    x.report(0, 1);
    for (int what : new int[] {LOW, -1, 3, HIGH}) {
      Check.due("what " + what, x.source(10, what), Check.OUTSIDE);
      Check.due("both", x.source(0, what), Check.OUTSIDE);
    }
  }

  // "THE PACE: that by which LATENESS of SOURCE is least, of like ones the least"
  private static void paceOfLikeOnes() {
    TwoRumours x = new TwoRumours();
    x.road(0, 1, 3);
    x.report(0, 10);
    x.report(1, 11);
    // 3 times 4 / 10 is 1, and so it is up to 6
    Check.due("4, not 5 or 6", x.pace(), 4);
    x.report(1, 10);
    Check.due("1 to 3 cut it to 0", x.pace(), 1);
  }

  private static void paceAtItsEnds() {
    TwoRumours x = new TwoRumours();
    x.road(0, 1, 30);
    x.report(0, 0);
    x.report(1, 60);
    Check.due("20", x.pace(), 20);
    x.report(1, 999);
    Check.due("late by all, least by 20", x.pace(), 20);
    x.report(1, 3);
    Check.due("1", x.pace(), 1);
    x.report(1, 57);
    Check.due("19", x.pace(), 19);
  }

  // "NONE"
  private static void paceNone() {
    TwoRumours x = new TwoRumours();
    Check.due("no reports", x.pace(), Check.NONE);
    x.report(3, 9);
    Check.due("one", x.pace(), 1);
    x.report(4, 9);
    Check.due("no ways", x.pace(), Check.NONE);
    x.silence();
    Check.due("no reports", x.pace(), Check.NONE);
  }

  private static void landStaysWithTheTown() {
    TwoRumours x = new TwoRumours();
    x.road(0, 1, 7);
    x.report(0, 4);
    x.keep(0);
    x.road(0, 1, 9);
    x.report(1, 5);
    x.goBack(0);
    x.fresh();
    x.town();
    x.sayings();
    Check.due("the road", x.road(0, 1, 9), 9);
    Check.due("the reports", x.silence(), 2);
  }
}
