/** Promises 31 to 35: roads, reports, whence a fear came, at what pace. */
public final class LandTest {
  public static void main(String[] args) {
    roads();
    reports();
    sources();
    cutting();
    far();
    paces();
    Check.end();
  }

  private static void roads() {
    TwoRumours x = new TwoRumours();
    Check.due("none before", x.road(0, 11, 30), 0);
    Check.due("thirty before", x.road(11, 0, 1), 30);
    Check.due("taken away", x.road(0, 11, 0), 1);
    Check.due("none", x.road(0, 11, 0), 0);
    Check.due("with itself", x.road(3, 3, 1), Check.OUTSIDE);
    Check.due("market 12", x.road(12, 3, 1), Check.OUTSIDE);
    Check.due("market -1", x.road(3, -1, 1), Check.OUTSIDE);
    Check.due("31 days", x.road(3, 4, 31), Check.OUTSIDE);
    Check.due("-1 days", x.road(3, 4, -1), Check.OUTSIDE);
    Check.due("refused ones build nothing", x.road(3, 4, 0), 0);
  }

  private static void reports() {
    TwoRumours x = new TwoRumours();
    Check.due("one", x.report(0, 0), 1);
    Check.due("two", x.report(11, 999), 2);
    Check.due("the newer one", x.report(0, 7), 2);
    Check.due("market 12", x.report(12, 5), Check.OUTSIDE);
    Check.due("market -1", x.report(-1, 5), Check.OUTSIDE);
    Check.due("day 1000", x.report(1, 1000), Check.OUTSIDE);
    Check.due("day -1", x.report(1, -1), Check.OUTSIDE);
    Check.due("silence", x.silence(), 2);
    Check.due("none", x.silence(), 0);
    Check.due("no reports", x.source(5, 0), Check.NONE);
    x.report(4, 7);
    x.report(4, 9);
    Check.due("the newer day", x.source(5, 1), 1009);
  }

  private static void sources() {
    TwoRumours x = new TwoRumours();
    x.road(0, 1, 4);
    x.road(1, 2, 6);
    x.road(0, 2, 30);
    x.report(0, 4);
    x.report(2, 6);
    Check.due("between them", x.source(10, 0), 1);
    Check.due("the day", x.source(10, 1), 1000);
    Check.due("no lateness", x.source(10, 2), 0);
    x.report(1, 3);
    Check.due("later", x.source(10, 2), 3);
    Check.due("of like ones the least market", x.source(10, 0), 1);
    x.road(1, 2, 0);
    x.road(0, 2, 0);
    Check.due("no ways to all", x.source(10, 0), Check.NONE);
    Check.due("no ways to all", x.source(10, 1), Check.NONE);
    Check.due("no ways to all", x.source(10, 2), Check.NONE);
    Check.due("pace 0", x.source(0, 0), Check.OUTSIDE);
    Check.due("pace 21", x.source(21, 0), Check.OUTSIDE);
    Check.due("what 3", x.source(1, 3), Check.OUTSIDE);
    Check.due("what -1", x.source(1, -1), Check.OUTSIDE);
    TwoRumours y = new TwoRumours();
    y.road(3, 5, 2);
    y.report(3, 5);
    Check.due("alike: 3 and 5, the least", y.source(10, 0), 3);
    Check.due("its day", y.source(10, 1), 1005);
    y.silence();
    y.report(5, 5);
    Check.due("3 is as good", y.source(10, 0), 3);
    Check.due("its day", y.source(10, 1), 1003);
  }

  private static void cutting() {
    TwoRumours x = new TwoRumours();
    x.road(0, 1, 1);
    x.road(1, 2, 2);
    x.report(0, 10);
    x.report(2, 11);
    // 3 days by a pace of 5: 1, not 0 and 1
    Check.due("cut of the sum", x.source(5, 2), 0);
    Check.due("from 0", x.source(5, 0), 0);
    Check.due("its day", x.source(5, 1), 1010);
  }

  private static void far() {
    TwoRumours x = new TwoRumours();
    for (int m = 0; m < 11; m++) {
      x.road(m, m + 1, 30);
    }
    x.report(11, 0);
    Check.due("far ahead of day 0", x.source(20, 1), 1000 - 660);
    Check.due("from 0", x.source(20, 0), 0);
    x.report(0, 660);
    Check.due("from the last", x.source(20, 0), 11);
    Check.due("to the day", x.source(20, 1), 1000);
  }

  private static void paces() {
    TwoRumours x = new TwoRumours();
    Check.due("no reports", x.pace(), Check.NONE);
    x.road(0, 1, 10);
    x.road(1, 2, 10);
    x.report(0, 0);
    x.report(1, 13);
    x.report(2, 26);
    Check.due("13 tenths", x.pace(), 13);
    Check.due("no lateness", x.source(13, 2), 0);
    x.silence();
    x.report(1, 9);
    Check.due("alike: the least", x.pace(), 1);
    x.report(7, 9);
    Check.due("no ways", x.pace(), Check.NONE);
  }
}
