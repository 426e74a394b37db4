import java.util.ArrayList;
import java.util.HashMap;
import java.util.HashSet;
import java.util.IdentityHashMap;
import java.util.List;
import java.util.Map;
import java.util.Set;
import java.util.TreeMap;
import java.util.TreeSet;

/**
 * The document once more, written with lists and maps and without a thought of speed or room,
 * so that the program can be held against it in many runs.
 */
final class PlainModel {
  static final int NONE = -1, NOBODY = -2, UNKNOWN = -1000001, OUTSIDE = -1000002, NOT = -1000003, FULL = -1000004;

  record Person(int heed, boolean silent, int place) {}

  record Tie(int a, int b, int s) {
    boolean joins(int p, int q) {
      return a == p && b == q || a == q && b == p;
    }
  }

  record Say(int asks, int answers, Set<Integer> bars, Set<Integer> joins) {}

  record Begun(int p, int s, int tick) {}

  record Interview(int from, int tick) {}

  static final class Hold {
    int person;
    boolean tired;
    int from;
    int tick;
    int known;
    Hold told;
  }

  final class World {
    Map<Integer, Map<Integer, Hold>> hold = new TreeMap<>();
    Map<Integer, Map<Integer, Set<Integer>>> told = new TreeMap<>();
    List<Begun> begun = new ArrayList<>();
    int tick;
    int nos;
    long seed;

    World copy() {
      World w = new World();
      IdentityHashMap<Hold, Hold> twin = new IdentityHashMap<>();
      for (var row : hold.entrySet()) {
        for (var e : row.getValue().entrySet()) {
          w.holdsOf(row.getKey()).put(e.getKey(), copyOf(e.getValue(), twin));
        }
      }
      for (var row : told.entrySet()) {
        for (var e : row.getValue().entrySet()) {
          w.toldBy(row.getKey(), e.getKey()).addAll(e.getValue());
        }
      }
      w.begun.addAll(begun);
      w.tick = tick;
      w.nos = nos;
      w.seed = seed;
      return w;
    }

    private Hold copyOf(Hold h, IdentityHashMap<Hold, Hold> twin) {
      if (h == null) {
        return null;
      }
      Hold t = twin.get(h);
      if (t == null) {
        t = new Hold();
        twin.put(h, t);
        t.person = h.person;
        t.tired = h.tired;
        t.from = h.from;
        t.tick = h.tick;
        t.known = h.known;
        t.told = copyOf(h.told, twin);
      }
      return t;
    }

    Map<Integer, Hold> holdsOf(int p) {
      return hold.computeIfAbsent(p, k -> new TreeMap<>());
    }

    Hold get(int p, int s) {
      return holdsOf(p).get(s);
    }

    Set<Integer> toldBy(int p, int s) {
      return told.computeIfAbsent(p, k -> new TreeMap<>()).computeIfAbsent(s, k -> new TreeSet<>());
    }

    int draw(int n) {
      seed = Math.floorMod(seed * 1103515245L + 12345L, 1L << 31);
      return (int) (seed / 65536 % n);
    }

    void come(int p, int s, int from, Hold told) {
      Hold h = new Hold();
      h.person = p;
      h.from = from;
      h.tick = tick;
      h.told = told;
      holdsOf(p).put(s, h);
    }

    int holding(int s) {
      int n = 0;
      for (int p = 0; p < persons.size(); p++) {
        n += get(p, s) != null ? 1 : 0;
      }
      return n;
    }

    int oneTick() {
      List<Integer> may = new ArrayList<>();
      for (int p = 0; p < persons.size(); p++) {
        boolean tells = false;
        for (Hold h : holdsOf(p).values()) {
          tells |= !h.tired;
        }
        if (tells && !persons.get(p).silent && !tiesOf(p).isEmpty()) {
          may.add(p);
        }
      }
      int came = 0;
      for (int p : may) {
        came += tell(p);
      }
      tick++;
      return came;
    }

    private int tell(int p) {
      List<Tie> own = tiesOf(p);
      int sum = 0;
      for (Tie t : own) {
        sum += t.s;
      }
      int d = draw(sum);
      int b = -1;
      int far = 0;
      for (Tie t : own) {
        far += t.s;
        if (far > d) {
          b = t.a == p ? t.b : t.a;
          break;
        }
      }
      int s = -1;
      for (var e : holdsOf(p).entrySet()) {
        if (!e.getValue().tired && (s < 0 || e.getValue().tick >= get(p, s).tick)) {
          s = e.getKey();
        }
      }
      if (s < 0) {
        return 0;
      }
      Hold mine = get(p, s);
      toldBy(b, s).add(p);
      if (get(b, s) != null) {
        mine.known++;
        if (mine.known >= ruleKnown) {
          mine.tired = true;
        }
        return 0;
      }
      boolean answered = false;
      for (int r : holdsOf(b).keySet()) {
        if (barred(r, s)) {
          int j = join(r, s);
          if (j != NONE && get(b, j) == null) {
            come(b, j, p, mine);
            return 1;
          }
          nos++;
          return 0;
        }
      }
      for (int r : holdsOf(b).keySet()) {
        int q = says.get(r).asks;
        answered |= q >= 0 && q == says.get(s).answers;
      }
      int heed = Math.min(100, persons.get(b).heed + (answered ? ruleMore : 0));
      if (draw(100) < heed) {
        come(b, s, p, mine);
        return 1;
      }
      return 0;
    }

    int post(int place, int s, int b) {
      int came = 0;
      for (int p = 0; p < persons.size(); p++) {
        if (persons.get(p).place != place) {
          continue;
        }
        if (draw(100) < b) {
          if (get(p, s) == null) {
            come(p, s, 24, null);
            came++;
          }
          for (var e : holdsOf(p).entrySet()) {
            if (barred(e.getKey(), s)) {
              e.getValue().tired = true;
            }
          }
        }
      }
      return came;
    }
  }

  StringBuilder text = new StringBuilder();
  List<Person> persons = new ArrayList<>();
  List<Tie> ties = new ArrayList<>();
  List<Say> says = new ArrayList<>();
  int ruleKnown = 3;
  int ruleMore = 20;
  int faultPlace = NONE;
  World world = new World();
  World[] images = new World[2];
  Map<Integer, Interview> interviews = new TreeMap<>();
  Map<Integer, Integer> roads = new HashMap<>();
  Map<Integer, Integer> reports = new TreeMap<>();

  List<Tie> tiesOf(int p) {
    List<Tie> own = new ArrayList<>();
    for (Tie t : ties) {
      if (t.a == p || t.b == p) {
        own.add(t);
      }
    }
    return own;
  }

  boolean barred(int s, int r) {
    return says.get(s).bars.contains(r) || says.get(r).bars.contains(s);
  }

  int join(int s, int r) {
    for (int k = 0; k < says.size(); k++) {
      if (s != r && says.get(k).joins.contains(s) && says.get(k).joins.contains(r)) {
        return k;
      }
    }
    return NONE;
  }

  boolean isP(int p) {
    return p >= 0 && p < persons.size();
  }

  boolean isS(int s) {
    return s >= 0 && s < says.size();
  }

  static boolean in(int v, int low, int high) {
    return v >= low && v <= high;
  }

  static int setOf(Iterable<Integer> them) {
    int set = 0;
    for (int k : them) {
      set |= 1 << k;
    }
    return set;
  }

  // ---- texts

  /** A fault of a text: its number and its place. */
  @SuppressWarnings("serial")
  static final class Fault extends Exception {
    final int number;
    final int place;

    Fault(int number, int place) {
      this.number = number;
      this.place = place;
    }
  }

  /** A text as words, numbers and signs, each with its place; behind them the end. */
  static final class Tokens {
    final List<String> parts = new ArrayList<>();
    final List<Integer> places = new ArrayList<>();
    int at = 0;

    Tokens(String s) {
      var m = java.util.regex.Pattern.compile("[a-z]+|[0-9]+|[^ ]", java.util.regex.Pattern.DOTALL).matcher(s);
      while (m.find()) {
        parts.add(m.group());
        places.add(m.start());
      }
      parts.add("");
      places.add(s.length());
    }

    String now() {
      return parts.get(at);
    }

    int place() {
      return places.get(at);
    }

    boolean maybe(String w) {
      if (now().equals(w)) {
        at++;
        return true;
      }
      return false;
    }

    void must(String w) throws Fault {
      if (!maybe(w)) {
        throw new Fault(1, place());
      }
    }

    int number(int low, int high) throws Fault {
      if (!now().matches("[0-9]+")) {
        throw new Fault(1, place());
      }
      if (now().length() > 3 || !in(Integer.parseInt(now()), low, high)) {
        throw new Fault(2, place());
      }
      return Integer.parseInt(parts.get(at++));
    }

    int unlike(int high, Set<Integer> not) throws Fault {
      int where = place();
      int n = number(0, high);
      if (not.contains(n)) {
        throw new Fault(4, where);
      }
      return n;
    }
  }

  int feed(int n, long bytes) {
    if (!in(n, 1, 8)) {
      return OUTSIDE;
    }
    if (text.length() + n > 600) {
      return FULL;
    }
    for (int k = n - 1; k >= 0; k--) {
      text.append((char) (bytes >>> 8 * k & 255));
    }
    return text.length();
  }

  int town() {
    List<Person> ps = new ArrayList<>();
    List<Tie> ts = new ArrayList<>();
    Tokens k = new Tokens(text.toString());
    text.setLength(0);
    try {
      while (!k.now().isEmpty()) {
        int start = k.place();
        if (k.maybe("person")) {
          if (ps.size() == 24) {
            throw new Fault(3, start);
          }
          int h = k.number(0, 100);
          boolean silent = k.maybe("silent");
          int place = k.maybe("at") ? k.number(0, 3) : NONE;
          k.must(";");
          ps.add(new Person(h, silent, place));
        } else {
          k.must("tie");
          if (ts.size() == 60) {
            throw new Fault(3, start);
          }
          int a = k.number(0, ps.size() - 1);
          Set<Integer> not = new HashSet<>(Set.of(a));
          for (Tie t : ts) {
            if (t.a == a || t.b == a) {
              not.add(t.a + t.b - a);
            }
          }
          int b = k.unlike(ps.size() - 1, not);
          int s = k.number(1, 9);
          k.must(";");
          ts.add(new Tie(a, b, s));
        }
      }
    } catch (Fault f) {
      faultPlace = f.place;
      return -10 - f.number;
    }
    faultPlace = NONE;
    persons = ps;
    ties = ts;
    interviews.clear();
    anew();
    return ps.size();
  }

  int sayings() {
    if (text.length() > 300) {
      return NOT;
    }
    List<Say> list = new ArrayList<>();
    Tokens k = new Tokens(text.toString());
    text.setLength(0);
    try {
      while (!k.now().isEmpty()) {
        int start = k.place();
        k.must("say");
        if (list.size() == 6) {
          throw new Fault(3, start);
        }
        int high = list.size() - 1;
        int asks = k.maybe("asks") ? k.number(0, 9) : NONE;
        int answers = k.maybe("answers") ? k.number(0, 9) : NONE;
        Set<Integer> bars = new TreeSet<>();
        if (k.maybe("bars")) {
          do {
            bars.add(k.unlike(high, bars));
          } while (k.maybe(","));
        }
        Set<Integer> joins = new TreeSet<>();
        if (k.maybe("joins")) {
          joins.add(k.unlike(high, joins));
          joins.add(k.unlike(high, joins));
        }
        k.must(";");
        list.add(new Say(asks, answers, bars, joins));
      }
    } catch (Fault f) {
      faultPlace = f.place;
      return -10 - f.number;
    }
    faultPlace = NONE;
    says = list;
    anew();
    return list.size();
  }

  private void anew() {
    fresh();
    images[0] = null;
    images[1] = null;
  }

  int fault() {
    return faultPlace;
  }

  int count(int what) {
    if (!in(what, 0, 7)) {
      return OUTSIDE;
    }
    return new int[] {persons.size(), ties.size(), says.size(), text.length(), world.tick, world.nos,
        interviews.size(), world.begun.size()}[what];
  }

  int person(int p, int what) {
    if (!isP(p)) {
      return UNKNOWN;
    }
    if (!in(what, 0, 4)) {
      return OUTSIDE;
    }
    int sum = 0;
    for (Tie t : tiesOf(p)) {
      sum += t.s;
    }
    Person one = persons.get(p);
    return new int[] {one.heed, one.silent ? 1 : 0, one.place, tiesOf(p).size(), sum}[what];
  }

  int tie(int a, int b) {
    if (!isP(a) || !isP(b)) {
      return UNKNOWN;
    }
    for (Tie t : ties) {
      if (t.joins(a, b)) {
        return t.s;
      }
    }
    return 0;
  }

  int saying(int s, int what) {
    if (!isS(s)) {
      return UNKNOWN;
    }
    if (!in(what, 0, 2)) {
      return OUTSIDE;
    }
    return new int[] {says.get(s).asks, says.get(s).answers, setOf(says.get(s).bars)}[what];
  }

  int pair(int s, int r, int what) {
    if (!isS(s) || !isS(r)) {
      return UNKNOWN;
    }
    if (!in(what, 0, 1)) {
      return OUTSIDE;
    }
    return what == 0 ? barred(s, r) ? 1 : 0 : join(s, r);
  }

  int rule(int what, int v) {
    if (!in(what, 0, 1) || !in(v, what == 0 ? 1 : 0, what == 0 ? 20 : 100)) {
      return OUTSIDE;
    }
    int was = what == 0 ? ruleKnown : ruleMore;
    if (what == 0) {
      ruleKnown = v;
    } else {
      ruleMore = v;
    }
    return was;
  }

  // ---- ticks

  int begin(int p, int s) {
    if (!isP(p) || !isS(s)) {
      return UNKNOWN;
    }
    if (world.get(p, s) != null) {
      return NOT;
    }
    if (world.begun.size() == 40) {
      return FULL;
    }
    world.begun.add(new Begun(p, s, world.tick));
    world.come(p, s, NOBODY, null);
    return world.holding(s);
  }

  int go(int n) {
    if (!in(n, 1, 500)) {
      return OUTSIDE;
    }
    int came = 0;
    for (int k = 0; k < n; k++) {
      came += world.oneTick();
    }
    return came;
  }

  int notice(int place, int s, int b) {
    if (!in(place, 0, 3) || !isS(s)) {
      return UNKNOWN;
    }
    return in(b, 0, 100) ? world.post(place, s, b) : OUTSIDE;
  }

  int holds(int p, int s, int what) {
    if (!isP(p) || !isS(s)) {
      return UNKNOWN;
    }
    if (!in(what, 0, 4)) {
      return OUTSIDE;
    }
    Hold h = world.get(p, s);
    if (what == 4) {
      return setOf(world.toldBy(p, s));
    }
    if (h == null) {
      return what == 1 || what == 2 ? NONE : 0;
    }
    return new int[] {h.tired ? 2 : 1, h.from, h.tick, h.known}[what];
  }

  int holders(int s) {
    if (!isS(s)) {
      return UNKNOWN;
    }
    int set = 0;
    for (int p = 0; p < persons.size(); p++) {
      set |= world.get(p, s) != null ? 1 << p : 0;
    }
    return set;
  }

  private static List<Integer> wayOf(Hold h) {
    List<Integer> way = new ArrayList<>();
    for (Hold at = h; at != null; at = at.told) {
      way.add(at.person);
    }
    return way;
  }

  int way(int p, int s, int i) {
    if (!isP(p) || !isS(s)) {
      return UNKNOWN;
    }
    List<Integer> way = wayOf(world.get(p, s));
    if (way.isEmpty()) {
      return NONE;
    }
    return i == NONE ? way.size() : in(i, 0, way.size() - 1) ? way.get(i) : NONE;
  }

  int nine(int p, int s, int what) {
    if (!isP(p) || !isS(s)) {
      return UNKNOWN;
    }
    if (!in(what, 0, 1)) {
      return OUTSIDE;
    }
    Set<Integer> roots = new HashSet<>();
    Map<Integer, Integer> split = new HashMap<>();
    for (int q : world.toldBy(p, s)) {
      List<Integer> way = wayOf(world.get(q, s));
      if (!way.contains(p)) {
        roots.add(way.get(way.size() - 1));
        int from = world.get(q, s).from;
        if (from >= 0 && from < 24) {
          split.merge(from, 1, Integer::sum);
        }
      }
    }
    int most = 0;
    for (int n : split.values()) {
      most = Math.max(most, n);
    }
    return what == 0 ? roots.size() : most;
  }

  int below(int p, int s) {
    if (!isP(p) || !isS(s)) {
      return UNKNOWN;
    }
    int set = 0;
    for (int q = 0; q < persons.size(); q++) {
      if (q != p && wayOf(world.get(q, s)).contains(p)) {
        set |= 1 << q;
      }
    }
    return set;
  }

  int curve(int set, int s, int t) {
    if (set < 0 || set >= 1 << says.size() || !isS(s)) {
      return UNKNOWN;
    }
    if (!in(t, 0, 200)) {
      return OUTSIDE;
    }
    World w = new World();
    w.seed = world.seed;
    while (true) {
      for (Begun b : world.begun) {
        if (b.tick == w.tick && (set >> b.s & 1) == 1 && w.get(b.p, b.s) == null) {
          w.come(b.p, b.s, NOBODY, null);
        }
      }
      if (w.tick == t) {
        return w.holding(s);
      }
      w.oneTick();
    }
  }

  int fresh() {
    int was = world.tick;
    long seed = world.seed;
    world = new World();
    world.seed = seed;
    return was;
  }

  // ---- interviews, notices

  int ask(int p, int from, int tick) {
    if (!isP(p) || from != NOBODY && (!isP(from) || from == p)) {
      return UNKNOWN;
    }
    if (!in(tick, 0, 9999)) {
      return OUTSIDE;
    }
    interviews.put(p, new Interview(from, tick));
    return interviews.size();
  }

  int forget() {
    int n = interviews.size();
    interviews.clear();
    return n;
  }

  private int endOf(int p) {
    Set<Integer> seen = new HashSet<>();
    int at = p;
    while (interviews.containsKey(at) && interviews.get(at).from != NOBODY) {
      if (!seen.add(at)) {
        return NONE;
      }
      at = interviews.get(at).from;
    }
    return at;
  }

  int end(int p) {
    return !isP(p) ? UNKNOWN : interviews.containsKey(p) ? endOf(p) : NOT;
  }

  int who(int what) {
    if (!in(what, 0, 2)) {
      return OUTSIDE;
    }
    Map<Integer, Integer> led = new TreeMap<>();
    Set<Integer> wrong = new TreeSet<>();
    for (int p : interviews.keySet()) {
      int e = endOf(p);
      Interview own = interviews.get(p);
      if (e == NONE) {
        wrong.add(p);
      } else {
        led.merge(e, 1, Integer::sum);
      }
      Interview other = interviews.get(own.from);
      if (other != null && other.tick >= own.tick) {
        wrong.add(p);
      }
    }
    if (what == 2) {
      return setOf(wrong);
    }
    int best = NONE;
    for (int e : led.keySet()) {
      if ((what == 0 || !interviews.containsKey(e)) && (best == NONE || led.get(e) > led.get(best))) {
        best = e;
      }
    }
    return best;
  }

  int best(int s, int b, int u, int what) {
    if (!isS(s)) {
      return UNKNOWN;
    }
    if (!in(b, 0, 100) || !in(u, 1, 100) || !in(what, 0, 2)) {
      return OUTSIDE;
    }
    int[] found = {NONE, NONE, tried(s, b, u, -1, NONE)};
    boolean any = false;
    for (int wait = 0; wait < Math.min(10, u); wait++) {
      for (int place = 0; place < 4; place++) {
        int n = tried(s, b, u, wait, place);
        if (n > found[2]) {
          found = new int[] {place, wait, n};
          any = true;
        }
      }
    }
    return any ? found[what] : NONE;
  }

  private int tried(int s, int b, int u, int wait, int place) {
    World w = world.copy();
    for (int k = 0; k < u; k++) {
      if (k == wait) {
        w.post(place, s, b);
      }
      w.oneTick();
    }
    return w.holding(s);
  }

  // ---- the net

  private int netSize() {
    return Math.min(10, persons.size());
  }

  private Map<Integer, Long> odds(int from, int steps) {
    Map<Integer, Long> now = new TreeMap<>();
    now.put(from, 1000000000L);
    for (int k = 0; k < steps; k++) {
      Map<Integer, Long> next = new TreeMap<>();
      for (var e : now.entrySet()) {
        part(e.getKey(), 0, e.getKey(), e.getValue(), next);
      }
      now = next;
    }
    return now;
  }

  private void part(int told, int p, int set, long odds, Map<Integer, Long> next) {
    if (odds == 0) {
      return;
    }
    if (p == netSize()) {
      next.merge(set, odds, Long::sum);
      return;
    }
    if ((told >> p & 1) == 1) {
      part(told, p + 1, set, odds, next);
      return;
    }
    int stays = 1000;
    for (int q = 0; q < netSize(); q++) {
      if ((told >> q & 1) == 1 && tie(p, q) > 0) {
        stays = stays * (1000 - tie(p, q) * persons.get(p).heed / 10) / 1000;
      }
    }
    long tells = odds * (1000 - stays) / 1000;
    part(told, p + 1, set | 1 << p, tells, next);
    part(told, p + 1, set, odds - tells, next);
  }

  int reach(int a, int p, int t) {
    if (!in(a, 0, netSize() - 1) || !in(p, 0, netSize() - 1)) {
      return UNKNOWN;
    }
    if (!in(t, 0, 12)) {
      return OUTSIDE;
    }
    long sum = 0;
    for (var e : odds(1 << a, t).entrySet()) {
      sum += (e.getKey() >> p & 1) == 1 ? e.getValue() : 0;
    }
    return (int) (sum / 1000);
  }

  private boolean isNetSet(int set) {
    return set >= 0 && set < 1 << netSize();
  }

  int many(int set, int t) {
    if (!isNetSet(set)) {
      return UNKNOWN;
    }
    if (!in(t, 0, 12)) {
      return OUTSIDE;
    }
    long sum = 0;
    for (var e : odds(set, t).entrySet()) {
      sum += e.getValue() * Integer.bitCount(e.getKey());
    }
    return (int) (sum / 1000000);
  }

  int began(int a, int set, int t) {
    if (!in(a, 0, netSize() - 1) || !isNetSet(set)) {
      return UNKNOWN;
    }
    if (!in(t, 0, 12)) {
      return OUTSIDE;
    }
    long sum = 0;
    for (int p = 0; p < netSize(); p++) {
      sum += odds(1 << p, t).getOrDefault(set, 0L);
    }
    return sum == 0 ? 0 : (int) (1000000L * odds(1 << a, t).getOrDefault(set, 0L) / sum);
  }

  int speak(int k, int t) {
    if (!in(k, 1, 3) || !in(t, 0, 12)) {
      return OUTSIDE;
    }
    int best = NONE;
    for (int set = 0; set < 1 << netSize(); set++) {
      if (Integer.bitCount(set) == k && (best == NONE || many(set, t) > many(best, t))) {
        best = set;
      }
    }
    return best;
  }

  // ---- the land

  private static int key(int a, int b) {
    return Math.min(a, b) * 100 + Math.max(a, b);
  }

  int road(int a, int b, int d) {
    if (!in(a, 0, 11) || !in(b, 0, 11) || a == b || !in(d, 0, 30)) {
      return OUTSIDE;
    }
    Integer was = d == 0 ? roads.remove(key(a, b)) : roads.put(key(a, b), d);
    return was == null ? 0 : was;
  }

  int report(int m, int day) {
    if (!in(m, 0, 11) || !in(day, 0, 999)) {
      return OUTSIDE;
    }
    reports.put(m, day);
    return reports.size();
  }

  int silence() {
    int n = reports.size();
    reports.clear();
    return n;
  }

  /** The days from a market to each that can be come to. */
  private Map<Integer, Integer> daysFrom(int m) {
    Map<Integer, Integer> days = new TreeMap<>(Map.of(m, 0));
    for (int round = 0; round < 12; round++) {
      for (var r : roads.entrySet()) {
        int a = r.getKey() / 100;
        int b = r.getKey() % 100;
        if (days.containsKey(a)) {
          days.merge(b, days.get(a) + r.getValue(), Math::min);
        }
        if (days.containsKey(b)) {
          days.merge(a, days.get(b) + r.getValue(), Math::min);
        }
      }
    }
    return days;
  }

  private int[] sourceBy(int pace) {
    int[] best = null;
    for (int m = 0; m < 12 && !reports.isEmpty(); m++) {
      Map<Integer, Integer> days = daysFrom(m);
      if (!days.keySet().containsAll(reports.keySet())) {
        continue;
      }
      for (int day = 999; day >= -2000; day--) {
        int late = 0;
        boolean ahead = false;
        for (var r : reports.entrySet()) {
          int behind = r.getValue() - (day + days.get(r.getKey()) * pace / 10);
          ahead |= behind < 0;
          late += behind;
        }
        if (!ahead) {
          if (best == null || late < best[2]) {
            best = new int[] {m, day + 1000, late};
          }
          break;
        }
      }
    }
    return best;
  }

  int source(int pace, int what) {
    if (!in(pace, 1, 20) || !in(what, 0, 2)) {
      return OUTSIDE;
    }
    int[] found = sourceBy(pace);
    return found == null ? NONE : found[what];
  }

  int pace() {
    int best = NONE;
    int least = 0;
    for (int pace = 1; pace <= 20; pace++) {
      int[] found = sourceBy(pace);
      if (found != null && (best == NONE || found[2] < least)) {
        best = pace;
        least = found[2];
      }
    }
    return best;
  }

  // ---- draws, images

  int seed(int v) {
    if (v < 0) {
      return OUTSIDE;
    }
    int was = (int) world.seed;
    world.seed = v;
    return was;
  }

  int keep(int i) {
    if (!in(i, 0, 1)) {
      return UNKNOWN;
    }
    images[i] = world.copy();
    return 1;
  }

  int goBack(int i) {
    if (!in(i, 0, 1)) {
      return UNKNOWN;
    }
    if (images[i] == null) {
      return NOT;
    }
    world = images[i].copy();
    return 1;
  }
}
