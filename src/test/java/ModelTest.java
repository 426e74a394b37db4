import java.util.Random;

/** Many runs of calls by chance, the program held against the plain model call by call. */
public final class ModelTest {
  private static final String[] MORE_WORDS = {"person ", "tie ", "silent ", "at ", "say ", "asks ", "bars ", "joins ", ";", ",", " ", "1000", "0", "9", "24", "A", "z", "\u00e9"};
  private static final int[] EDGES = {-2147483648, -1000, -3, -2, -1, 0, 1, 2, 3, 5, 6, 9, 10, 11, 12, 13, 20, 21, 23, 24, 25, 30, 31, 100, 101, 200, 201, 500, 501, 999, 1000, 9999, 10000, 2147483647};

  private final Random chance;
  private final TwoRumours x = new TwoRumours();
  private final PlainModel m = new PlainModel();
  private final StringBuilder log = new StringBuilder();
  private boolean right = true;

  private ModelTest(long seed) {
    chance = new Random(seed);
  }

  public static void main(String[] args) {
    int runs = args.length > 0 ? Integer.parseInt(args[0]) : 1500;
    int from = args.length > 1 ? Integer.parseInt(args[1]) : 0;
    int wrong = 0;
    for (int run = from; run < from + runs && wrong < 5; run++) {
      ModelTest one = new ModelTest(run);
      one.run();
      if (!one.right) {
        wrong++;
        System.out.println("run " + run + ":\n" + one.log);
      }
    }
    System.out.println(runs + " runs against the plain model, " + wrong + " wrong");
    if (wrong != 0) {
      System.exit(1);
    }
  }

  private void run() {
    boolean wild = chance.nextInt(4) == 0;
    giveTown(wild);
    giveSayings(wild);
    int calls = 40 + chance.nextInt(200);
    for (int k = 0; k < calls && right; k++) {
      oneCall();
    }
  }

  private void same(String call, int got, int want) {
    log.append(call).append(" -> ").append(got).append('\n');
    if (got != want) {
      right = false;
      log.append("  due is ").append(want).append('\n');
    }
  }

  private void feed(String text) {
    for (int i = 0; i < text.length() && right; ) {
      int n = Math.min(text.length() - i, 1 + chance.nextInt(8));
      long bytes = chance.nextLong();
      for (int k = 0; k < n; k++) {
        bytes = bytes << 8 | text.charAt(i + k) & 255;
      }
      same("feed(" + n + ", " + bytes + ")", x.feed(n, bytes), m.feed(n, bytes));
      i += n;
    }
    log.append("text: ").append(text).append('\n');
  }

  private String spoilt(String text) {
    StringBuilder s = new StringBuilder(text);
    for (int k = 1 + chance.nextInt(2); k > 0; k--) {
      int at = chance.nextInt(s.length() + 1);
      int how = chance.nextInt(4);
      if (how == 0 && at < s.length()) {
        s.deleteCharAt(at);
      } else if (how == 1) {
        s.setLength(at);
      } else {
        s.insert(at, MORE_WORDS[chance.nextInt(MORE_WORDS.length)]);
      }
    }
    return s.toString();
  }

  private String blanks() {
    return chance.nextInt(6) == 0 ? " " : "";
  }

  private void giveTown(boolean wild) {
    int n = chance.nextInt(5) == 0 ? chance.nextInt(26) : chance.nextInt(9);
    int most = chance.nextInt(4) == 0 ? 70 : 12;
    StringBuilder s = new StringBuilder();
    boolean places = chance.nextInt(3) != 0;
    int heed = chance.nextInt(101);
    for (int p = 0; p < n; p++) {
      s.append("person").append(chance.nextInt(6) == 0 ? "" : " ");
      s.append(chance.nextInt(3) == 0 ? chance.nextInt(101) : heed);
      s.append(chance.nextInt(8) == 0 ? " silent" : "");
      s.append(places && chance.nextInt(3) != 0 ? " at " + chance.nextInt(4) : "").append(blanks()).append(';').append(blanks());
    }
    java.util.HashSet<Integer> pairs = new java.util.HashSet<>();
    for (int k = 0; k < most && n > 1 && s.length() < 588; k++) {
      int a = chance.nextInt(n);
      int b = chance.nextInt(n);
      if (wild && chance.nextInt(10) == 0 || a != b && pairs.add(Math.min(a, b) * 30 + Math.max(a, b))) {
        s.append("tie ").append(a).append(' ').append(b).append(' ').append(1 + chance.nextInt(9)).append(';');
      }
    }
    feed(wild && chance.nextBoolean() ? spoilt(s.toString()) : s.toString());
    same("town()", x.town(), m.town());
    same("fault()", x.fault(), m.fault());
  }

  private void giveSayings(boolean wild) {
    int n = 1 + chance.nextInt(chance.nextInt(5) == 0 ? 7 : 6);
    StringBuilder s = new StringBuilder();
    for (int k = 0; k < n; k++) {
      s.append("say");
      s.append(chance.nextInt(3) == 0 ? " asks " + chance.nextInt(3) : "");
      s.append(chance.nextInt(3) == 0 ? " answers" + blanks() + chance.nextInt(3) : "");
      if (k > 0 && chance.nextInt(2) == 0) {
        int first = chance.nextInt(k);
        s.append(" bars ").append(first);
        for (int r = first + 1; r < k; r++) {
          s.append(chance.nextInt(3) == 0 ? "," + blanks() + r : "");
        }
      }
      if (k > 1 && chance.nextInt(2) == 0) {
        int a = chance.nextInt(k);
        int b = chance.nextInt(k);
        s.append(a != b || wild ? " joins " + a + " " + b : "");
      }
      s.append(blanks()).append(';');
    }
    feed(wild && chance.nextBoolean() ? spoilt(s.toString()) : s.toString());
    same("sayings()", x.sayings(), m.sayings());
    same("fault()", x.fault(), m.fault());
  }

  /** Mostly a number from 0 to a most, else an edge. */
  private int upTo(int most) {
    return chance.nextInt(25) == 0 ? EDGES[chance.nextInt(EDGES.length)] : most < 0 ? 0 : chance.nextInt(most + 1);
  }

  private int p() {
    return upTo(m.persons.size() - 1);
  }

  private int s() {
    return upTo(m.says.size() - 1);
  }

  private int net() {
    return upTo(Math.min(10, m.persons.size()) - 1);
  }

  private int netSet() {
    return upTo((1 << Math.min(10, m.persons.size())) - 1);
  }

  private int steps() {
    return upTo(m.persons.size() > 6 ? 3 : 12);
  }

  private void oneCall() {
    int kind = chance.nextInt(100);
    if (kind < 55) {
      tickCall();
    } else if (kind < 70) {
      interviewCall();
    } else if (kind < 75) {
      netCall();
    } else if (kind < 85) {
      landCall();
    } else if (kind < 92) {
      imageCall();
    } else {
      textCall();
    }
  }

  private void textCall() {
    int a = s();
    int b = s();
    int p = p();
    int q = p();
    int w = upTo(7);
    switch (chance.nextInt(8)) {
      case 0 -> same("count(" + w + ")", x.count(w), m.count(w));
      case 1 -> same("person(" + p + ", " + w + ")", x.person(p, w), m.person(p, w));
      case 2 -> same("tie(" + p + ", " + q + ")", x.tie(p, q), m.tie(p, q));
      case 3 -> same("saying(" + a + ", " + w + ")", x.saying(a, w), m.saying(a, w));
      case 4 -> {
        int what = upTo(1);
        same("pair(" + a + ", " + b + ", " + what + ")", x.pair(a, b, what), m.pair(a, b, what));
      }
      case 5 -> {
        int what = upTo(1);
        int v = upTo(what == 0 ? 21 : 101);
        same("rule(" + what + ", " + v + ")", x.rule(what, v), m.rule(what, v));
      }
      case 6 -> {
        int n = upTo(8);
        long bytes = chance.nextInt(10) == 0 ? chance.nextLong() : 0x2020202020202020L;
        same("feed(" + n + ", " + bytes + ")", x.feed(n, bytes), m.feed(n, bytes));
      }
      default -> {
        if (chance.nextInt(4) == 0) {
          giveTown(chance.nextBoolean());
        } else if (chance.nextInt(3) == 0) {
          giveSayings(chance.nextBoolean());
        }
      }
    }
  }

  private void tickCall() {
    int p = p();
    int s = s();
    switch (chance.nextInt(12)) {
      case 0, 1 -> same("begin(" + p + ", " + s + ")", x.begin(p, s), m.begin(p, s));
      case 2 -> {
        int n = chance.nextInt(4) == 0 ? upTo(60) : upTo(4);
        same("go(" + n + ")", x.go(n), m.go(n));
        lookAtAll();
      }
      case 3 -> {
        int place = upTo(3);
        int b = upTo(100);
        same("notice(" + place + ", " + s + ", " + b + ")", x.notice(place, s, b), m.notice(place, s, b));
        lookAtAll();
      }
      case 4, 5 -> {
        int w = upTo(4);
        same("holds(" + p + ", " + s + ", " + w + ")", x.holds(p, s, w), m.holds(p, s, w));
      }
      case 6 -> same("holders(" + s + ")", x.holders(s), m.holders(s));
      case 7 -> {
        int i = upTo(4) - 1;
        same("way(" + p + ", " + s + ", " + i + ")", x.way(p, s, i), m.way(p, s, i));
      }
      case 8 -> {
        int w = upTo(1);
        same("nine(" + p + ", " + s + ", " + w + ")", x.nine(p, s, w), m.nine(p, s, w));
      }
      case 9 -> same("below(" + p + ", " + s + ")", x.below(p, s), m.below(p, s));
      case 10 -> {
        int set = upTo((1 << m.says.size()) - 1);
        int t = chance.nextInt(5) == 0 ? upTo(200) : upTo(20);
        same("curve(" + set + ", " + s + ", " + t + ")", x.curve(set, s, t), m.curve(set, s, t));
      }
      default -> {
        if (chance.nextInt(6) == 0) {
          same("fresh()", x.fresh(), m.fresh());
        }
      }
    }
  }

  private void lookAtAll() {
    for (int p = 0; p < m.persons.size() && right; p++) {
      for (int s = 0; s < m.says.size() && right; s++) {
        for (int w = 0; w < 5; w++) {
          same("holds(" + p + ", " + s + ", " + w + ")", x.holds(p, s, w), m.holds(p, s, w));
        }
        for (int i = -1; i < 4; i++) {
          same("way(" + p + ", " + s + ", " + i + ")", x.way(p, s, i), m.way(p, s, i));
        }
        same("nine(" + p + ", " + s + ", 0)", x.nine(p, s, 0), m.nine(p, s, 0));
        same("nine(" + p + ", " + s + ", 1)", x.nine(p, s, 1), m.nine(p, s, 1));
        same("below(" + p + ", " + s + ")", x.below(p, s), m.below(p, s));
      }
    }
    same("count(4)", x.count(4), m.count(4));
    same("count(5)", x.count(5), m.count(5));
  }

  private void interviewCall() {
    int p = p();
    switch (chance.nextInt(8)) {
      case 0, 1, 2 -> {
        int from = chance.nextInt(5) == 0 ? -2 : p();
        int tick = upTo(10);
        same("ask(" + p + ", " + from + ", " + tick + ")", x.ask(p, from, tick), m.ask(p, from, tick));
      }
      case 3 -> same("end(" + p + ")", x.end(p), m.end(p));
      case 4, 5 -> {
        int w = upTo(2);
        same("who(" + w + ")", x.who(w), m.who(w));
      }
      case 6 -> {
        int s = s();
        int b = upTo(100);
        int u = chance.nextInt(8) == 0 ? upTo(100) : upTo(12);
        int w = upTo(2);
        same("best(" + s + ", " + b + ", " + u + ", " + w + ")", x.best(s, b, u, w), m.best(s, b, u, w));
      }
      default -> {
        if (chance.nextInt(6) == 0) {
          same("forget()", x.forget(), m.forget());
        }
      }
    }
  }

  private void netCall() {
    int a = net();
    int p = net();
    int t = steps();
    int set = netSet();
    switch (chance.nextInt(4)) {
      case 0 -> same("reach(" + a + ", " + p + ", " + t + ")", x.reach(a, p, t), m.reach(a, p, t));
      case 1 -> same("many(" + set + ", " + t + ")", x.many(set, t), m.many(set, t));
      case 2 -> same("began(" + a + ", " + set + ", " + t + ")", x.began(a, set, t), m.began(a, set, t));
      default -> {
        int k = upTo(3);
        int few = m.persons.size() > 5 ? Math.min(t, 1) : Math.min(t, 4);
        same("speak(" + k + ", " + few + ")", x.speak(k, few), m.speak(k, few));
      }
    }
  }

  private void landCall() {
    int a = upTo(11);
    int b = upTo(11);
    switch (chance.nextInt(10)) {
      case 0, 1, 2, 3 -> {
        int d = chance.nextInt(8) == 0 ? 0 : upTo(30);
        same("road(" + a + ", " + b + ", " + d + ")", x.road(a, b, d), m.road(a, b, d));
      }
      case 4, 5 -> {
        int day = upTo(60);
        same("report(" + a + ", " + day + ")", x.report(a, day), m.report(a, day));
      }
      case 6, 7 -> {
        int pace = 1 + upTo(19);
        int w = upTo(2);
        same("source(" + pace + ", " + w + ")", x.source(pace, w), m.source(pace, w));
      }
      case 8 -> same("pace()", x.pace(), m.pace());
      default -> {
        if (chance.nextInt(5) == 0) {
          same("silence()", x.silence(), m.silence());
        }
      }
    }
  }

  private void imageCall() {
    int i = upTo(1);
    switch (chance.nextInt(3)) {
      case 0 -> {
        int v = chance.nextInt();
        same("seed(" + v + ")", x.seed(v), m.seed(v));
      }
      case 1 -> same("keep(" + i + ")", x.keep(i), m.keep(i));
      default -> {
        same("goBack(" + i + ")", x.goBack(i), m.goBack(i));
        lookAtAll();
      }
    }
  }
}
