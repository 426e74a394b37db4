import java.lang.management.ManagementFactory;

/** All calls of one run live in one room: a call makes nothing new, 512 new objects fit into it. */
public final class RoomTest {
  public static void main(String[] args) {
    com.sun.management.ThreadMXBean bean = (com.sun.management.ThreadMXBean) ManagementFactory.getThreadMXBean();
    long id = Thread.currentThread().getId();
    callAll(new TwoRumours());
    long start = bean.getThreadAllocatedBytes(id);
    TwoRumours x = new TwoRumours();
    long made = bean.getThreadAllocatedBytes(id);
    Check.due("an object of at most 70000 bytes: " + (made - start), made - start <= 70000 ? 1 : 0, 1);
    StringBuilder town = new StringBuilder();
    for (int p = 0; p < 12; p++) {
      town.append("person 50 at ").append(p % 4).append(';');
    }
    for (int p = 0; p < 11; p++) {
      town.append("tie ").append(p).append(' ').append(p + 1).append(" 5;");
    }
    Check.town(x, town.toString());
    Check.sayings(x, "say asks 1;say answers 1;say bars 0;say joins 0 2;");
    long before = bean.getThreadAllocatedBytes(id);
    for (int k = 0; k < 10; k++) {
      callAll(x);
    }
    long after = bean.getThreadAllocatedBytes(id);
    // what the machine itself makes beside (a class that it loads) stays far below this
    Check.due("380 calls made next to nothing: " + (after - before) + " bytes", after - before <= 20000 ? 1 : 0, 1);
    Check.end();
  }

  private static void callAll(TwoRumours x) {
    x.feed(4, 0x7361793bL);
    x.fault();
    x.count(3);
    x.person(0, 4);
    x.tie(0, 1);
    x.saying(2, 2);
    x.pair(0, 2, 1);
    x.rule(0, 3);
    x.begin(0, 0);
    x.begin(5, 2);
    x.go(500);
    x.notice(1, 1, 50);
    x.holds(1, 0, 1);
    x.holders(0);
    x.way(1, 0, 1);
    x.nine(1, 0, 0);
    x.nine(1, 0, 1);
    x.below(0, 0);
    x.curve(7, 0, 200);
    x.fresh();
    x.ask(0, 1, 5);
    x.ask(1, -2, 5);
    x.end(0);
    x.who(0);
    x.who(2);
    x.forget();
    x.best(1, 50, 100, 0);
    x.reach(0, 1, 12);
    x.many(3, 12);
    x.began(0, 3, 3);
    x.speak(3, 2);
    x.road(0, 1, 5);
    x.report(0, 5);
    x.source(5, 1);
    x.pace();
    x.silence();
    x.seed(5);
    x.keep(1);
    x.goBack(1);
  }
}
