import java.util.Arrays;

/** Two rumours meet in a town; README.md shows its use, the document tells its promises. */
public final class TwoRumours {
  public static final int NONE = -1, NOBODY = -2, UNKNOWN = -1000001, OUTSIDE = -1000002, NOT = -1000003, FULL = -1000004;

  private static final int PERSONS = 24, TIES = 60, PLACES = 4, MOST_HEED = 100, MOST_STRENGTH = 9;
  private static final int SAYINGS = 6, LAST_QUESTION = 9, CELLS = PERSONS * SAYINGS;
  private static final int TEXT_BYTES = 600, SAYINGS_BYTES = 300, BYTES_A_CALL = 8;
  private static final int CANNOT_STAND = 1, OUT_OF_BOUNDS = 2, TOO_MANY = 3, AGAIN = 4, FAULT_BASE = -10;
  private static final int END = 0, WORD = 1, NUMBER = 2, SIGN = 3, MOST_FIGURES = 3;
  private static final int BY_NOTICE = 24, BEGINNINGS = 40, TELLS = 1, TIRED = 2;
  private static final int MOST_KNOWN = 20, MOST_TICKS = 500, CURVE_TICKS = 200, LAST_TOLD_TICK = 9999;
  private static final int NOTICE_WAITS = 10, NOTICE_TICKS = 100, HUNDRED = 100;
  private static final int NET_PERSONS = 10, NET_SETS = 1024, NET_PARTS = 512, NET_STEPS = 12, MOST_SPOKEN = 3, THOUSAND = 1000;
  private static final long MILLION = 1000000L, BILLION = 1000000000L, SEEDS = 2147483648L;
  private static final int MARKETS = 12, ROAD_DAYS = 30, LAST_DAY = 999, MOST_PACE = 20, DAY_BASE = 1000;
  private static final int NO_WAY = 1000000, IMAGES = 2;

  private final Text text;
  private final Town people;
  private final Town peopleRead;
  private final Lore lore;
  private final Lore loreRead;
  private final Rules rules;
  private final Telling telling;
  private final Course course;
  private final Course ahead;
  private final Course trial;
  private final Course[] images;
  private final Ways ways;
  private final Interviews interviews;
  private final Net net;
  private final Land land;
  private int latestFault;

  public TwoRumours() {
    text = new Text();
    people = new Town();
    peopleRead = new Town();
    lore = new Lore();
    loreRead = new Lore();
    rules = new Rules();
    telling = new Telling(people, lore, rules);
    course = new Course();
    ahead = new Course();
    trial = new Course();
    images = new Course[IMAGES];
    for (int i = 0; i < IMAGES; i++) {
      images[i] = new Course();
    }
    ways = new Ways(course);
    interviews = new Interviews();
    net = new Net(people);
    land = new Land();
    latestFault = NONE;
  }

  // ---- texts

  public int feed(int n, long bytes) {
    if (n < 1 || n > BYTES_A_CALL) {
      return OUTSIDE;
    }
    if (text.length + n > TEXT_BYTES) {
      return FULL;
    }
    for (int k = n - 1; k >= 0; k--) {
      text.append((char) ((bytes >> (8 * k)) & 255L));
    }
    return text.length;
  }

  public int town() {
    peopleRead.readFrom(text);
    int number = closeText();
    if (number != 0) {
      return FAULT_BASE - number;
    }
    people.copyFrom(peopleRead);
    net.ready = false;
    interviews.clear();
    startAnew();
    return people.persons;
  }

  public int sayings() {
    if (text.length > SAYINGS_BYTES) {
      return NOT;
    }
    loreRead.readFrom(text);
    int number = closeText();
    if (number != 0) {
      return FAULT_BASE - number;
    }
    lore.copyFrom(loreRead);
    startAnew();
    return lore.said;
  }

  public int fault() {
    return latestFault;
  }

  public int count(int what) {
    switch (what) {
      case 0: return people.persons;
      case 1: return people.ties;
      case 2: return lore.said;
      case 3: return text.length;
      case 4: return course.tick;
      case 5: return course.noes;
      case 6: return interviews.number();
      case 7: return course.beginnings;
      default: return OUTSIDE;
    }
  }

  public int person(int p, int what) {
    if (!isPerson(p)) {
      return UNKNOWN;
    }
    switch (what) {
      case 0: return people.heed[p];
      case 1: return people.silent >> p & 1;
      case 2: return people.seat[p];
      case 3: return people.friends[p];
      case 4: return people.weight[p];
      default: return OUTSIDE;
    }
  }

  public int tie(int a, int b) {
    return isPerson(a) && isPerson(b) ? people.strengthOf(a, b) : UNKNOWN;
  }

  public int saying(int s, int what) {
    if (!isSaying(s)) {
      return UNKNOWN;
    }
    switch (what) {
      case 0: return lore.asks[s];
      case 1: return lore.answers[s];
      case 2: return lore.bars[s];
      default: return OUTSIDE;
    }
  }

  public int pair(int s, int r, int what) {
    if (!isSaying(s) || !isSaying(r)) {
      return UNKNOWN;
    }
    switch (what) {
      case 0: return lore.barred[s] >> r & 1;
      case 1: return lore.joinOf(s, r);
      default: return OUTSIDE;
    }
  }

  public int rule(int what, int v) {
    if (what == 0 && v >= 1 && v <= MOST_KNOWN) {
      int was = rules.known;
      rules.known = v;
      return was;
    }
    if (what == 1 && v >= 0 && v <= MOST_HEED) {
      int was = rules.moreHeed;
      rules.moreHeed = v;
      return was;
    }
    return OUTSIDE;
  }

  // ---- ticks

  public int begin(int p, int s) {
    if (!isPerson(p) || !isSaying(s)) {
      return UNKNOWN;
    }
    if (course.has(p, s)) {
      return NOT;
    }
    if (course.beginnings >= BEGINNINGS) {
      return FULL;
    }
    course.noteBeginning(p, s);
    course.take(p, s, NOBODY, s);
    return Integer.bitCount(course.setOf(s, people.persons));
  }

  public int go(int n) {
    return n < 1 || n > MOST_TICKS ? OUTSIDE : telling.pass(course, n);
  }

  public int notice(int place, int s, int b) {
    if (place < 0 || place >= PLACES || !isSaying(s)) {
      return UNKNOWN;
    }
    return b < 0 || b > HUNDRED ? OUTSIDE : telling.post(course, place, s, b);
  }

  public int holds(int p, int s, int what) {
    if (!isPerson(p) || !isSaying(s)) {
      return UNKNOWN;
    }
    int cell = p * SAYINGS + s;
    boolean has = course.has(p, s);
    switch (what) {
      case 0: return course.stateOf(p, s);
      case 1: return has ? course.giver[cell] : NONE;
      case 2: return has ? course.since[cell] : NONE;
      case 3: return course.known[cell];
      case 4: return course.toldBy[cell];
      default: return OUTSIDE;
    }
  }

  public int holders(int s) {
    return isSaying(s) ? course.setOf(s, people.persons) : UNKNOWN;
  }

  public int way(int p, int s, int i) {
    if (!isPerson(p) || !isSaying(s)) {
      return UNKNOWN;
    }
    if (!course.has(p, s)) {
      return NONE;
    }
    ways.trace(p, s);
    if (i == NONE) {
      return ways.length;
    }
    return i >= 0 && i < ways.length ? ways.path[i] : NONE;
  }

  public int nine(int p, int s, int what) {
    if (!isPerson(p) || !isSaying(s)) {
      return UNKNOWN;
    }
    switch (what) {
      case 0: return ways.rootsBehind(p, s);
      case 1: return ways.splitBehind(p, s);
      default: return OUTSIDE;
    }
  }

  public int below(int p, int s) {
    return isPerson(p) && isSaying(s) ? ways.thoseBy(p, s) : UNKNOWN;
  }

  public int curve(int set, int s, int t) {
    if (!isSetOf(set, lore.said) || !isSaying(s)) {
      return UNKNOWN;
    }
    if (t < 0 || t > CURVE_TICKS) {
      return OUTSIDE;
    }
    trial.clear();
    trial.draws = course.draws;
    for (int k = 0; k < t; k++) {
      trial.beginAsIn(course, set);
      telling.tell(trial);
    }
    trial.beginAsIn(course, set);
    return Integer.bitCount(trial.setOf(s, people.persons));
  }

  public int fresh() {
    int was = course.tick;
    course.clear();
    return was;
  }

  // ---- interviews, notices

  public int ask(int p, int from, int tick) {
    boolean known = from == NOBODY || isPerson(from) && from != p;
    if (!isPerson(p) || !known) {
      return UNKNOWN;
    }
    return tick < 0 || tick > LAST_TOLD_TICK ? OUTSIDE : interviews.put(p, from, tick);
  }

  public int forget() {
    int were = interviews.number();
    interviews.clear();
    return were;
  }

  public int end(int p) {
    if (!isPerson(p)) {
      return UNKNOWN;
    }
    return interviews.has(p) ? interviews.endOf(p) : NOT;
  }

  public int who(int what) {
    switch (what) {
      case 0: return interviews.mostLedTo(false);
      case 1: return interviews.mostLedTo(true);
      case 2: return interviews.falseOnes();
      default: return OUTSIDE;
    }
  }

  public int best(int s, int b, int u, int what) {
    if (!isSaying(s)) {
      return UNKNOWN;
    }
    if (b < 0 || b > HUNDRED || u < 1 || u > NOTICE_TICKS || what < 0 || what > 2) {
      return OUTSIDE;
    }
    trial.copyFrom(course);
    ahead.copyFrom(course);
    int most = heldBehind(s, u);
    int bestPlace = NONE;
    int bestWait = NONE;
    for (int wait = 0; wait < NOTICE_WAITS && wait < u; wait++) {
      for (int place = 0; place < PLACES; place++) {
        trial.copyFrom(ahead);
        telling.post(trial, place, s, b);
        int held = heldBehind(s, u - wait);
        if (held > most) {
          most = held;
          bestPlace = place;
          bestWait = wait;
        }
      }
      telling.tell(ahead);
    }
    if (bestPlace == NONE) {
      return NONE;
    }
    return what == 0 ? bestPlace : what == 1 ? bestWait : most;
  }

  // ---- the net

  public int reach(int a, int p, int t) {
    if (!isOfNet(a) || !isOfNet(p)) {
      return UNKNOWN;
    }
    return isSteps(t) ? net.reachOf(a, p, t) : OUTSIDE;
  }

  public int many(int set, int t) {
    if (!isSetOf(set, net.size())) {
      return UNKNOWN;
    }
    return isSteps(t) ? net.manyOf(set, t) : OUTSIDE;
  }

  public int began(int a, int set, int t) {
    if (!isOfNet(a) || !isSetOf(set, net.size())) {
      return UNKNOWN;
    }
    return isSteps(t) ? net.beganOf(a, set, t) : OUTSIDE;
  }

  public int speak(int k, int t) {
    return k < 1 || k > MOST_SPOKEN || !isSteps(t) ? OUTSIDE : net.bestToSpeak(k, t);
  }

  // ---- the land

  public int road(int a, int b, int d) {
    if (!isMarket(a) || !isMarket(b) || a == b || d < 0 || d > ROAD_DAYS) {
      return OUTSIDE;
    }
    return land.lay(a, b, d);
  }

  public int report(int m, int day) {
    return !isMarket(m) || day < 0 || day > LAST_DAY ? OUTSIDE : land.hear(m, day);
  }

  public int silence() {
    int were = land.heard;
    land.hush();
    return were;
  }

  public int source(int pace, int what) {
    if (pace < 1 || pace > MOST_PACE || what < 0 || what > 2) {
      return OUTSIDE;
    }
    land.measure();
    land.seek(pace);
    if (land.market == NONE) {
      return NONE;
    }
    return what == 0 ? land.market : what == 1 ? land.firstDay + DAY_BASE : land.lateness;
  }

  public int pace() {
    return land.bestPace();
  }

  // ---- draws, images

  public int seed(int v) {
    if (v < 0) {
      return OUTSIDE;
    }
    int was = (int) course.draws;
    course.draws = v;
    return was;
  }

  public int keep(int i) {
    if (i < 0 || i >= IMAGES) {
      return UNKNOWN;
    }
    images[i].copyFrom(course);
    images[i].kept = true;
    return 1;
  }

  public int goBack(int i) {
    if (i < 0 || i >= IMAGES) {
      return UNKNOWN;
    }
    if (!images[i].kept) {
      return NOT;
    }
    course.copyFrom(images[i]);
    return 1;
  }

  // ---- what the calls share

  private boolean isPerson(int p) {
    return p >= 0 && p < people.persons;
  }

  private boolean isSaying(int s) {
    return s >= 0 && s < lore.said;
  }

  private boolean isOfNet(int p) {
    return p >= 0 && p < net.size();
  }

  /** Whether a set has no bit but of the first so many. */
  private static boolean isSetOf(int set, int many) {
    return set >> many == 0;
  }

  private static boolean isSteps(int t) {
    return t >= 0 && t <= NET_STEPS;
  }

  private static boolean isMarket(int m) {
    return m >= 0 && m < MARKETS;
  }

  /** Keeps the place of the fault of the text just read, empties the text: the fault's number. */
  private int closeText() {
    latestFault = text.place;
    text.length = 0;
    return text.fault;
  }

  /** Nothing is held or began; the images would not fit the new town or sayings. */
  private void startAnew() {
    course.clear();
    for (int i = 0; i < IMAGES; i++) {
      images[i].kept = false;
    }
  }

  /** How many hold a saying when the trial has gone on so many ticks. */
  private int heldBehind(int s, int ticks) {
    telling.pass(trial, ticks);
    return Integer.bitCount(trial.setOf(s, people.persons));
  }

  /** The text that is fed, read word by word; of its faults the first is kept. */
  private static final class Text {
    final char[] signs = new char[TEXT_BYTES];
    int length;
    int kind;
    int first;
    int behind;
    int value;
    int fault;
    int place = NONE;

    void append(char sign) {
      if (length < TEXT_BYTES) {
        signs[length] = sign;
        length++;
      }
    }

    void open() {
      fault = 0;
      place = NONE;
      behind = 0;
      step();
    }

    boolean goesOn() {
      return fault == 0 && kind != END;
    }

    void blame(int number) {
      if (fault == 0) {
        fault = number;
        place = first;
      }
    }

    /** Goes to the next word, number or sign; with a fault it stays, so that the first one counts. */
    void step() {
      if (fault != 0) {
        return;
      }
      first = behind;
      while (first < length && signs[first] == ' ') {
        first++;
      }
      behind = first;
      if (first >= length) {
        kind = END;
      } else if (isLetter(first)) {
        kind = WORD;
        while (behind < length && isLetter(behind)) {
          behind++;
        }
      } else if (isFigure(first)) {
        kind = NUMBER;
        readFigures();
      } else {
        kind = SIGN;
        behind++;
      }
    }

    private void readFigures() {
      value = 0;
      while (behind < length && signs[behind] >= '0' && signs[behind] <= '9') {
        if (behind - first < MOST_FIGURES) {
          value = value * 10 + (signs[behind] - '0');
        }
        behind++;
      }
    }

    private boolean isLetter(int at) {
      return at < length && signs[at] >= 'a' && signs[at] <= 'z';
    }

    private boolean isFigure(int at) {
      return at < length && signs[at] >= '0' && signs[at] <= '9';
    }

    boolean isWord(String word) {
      if (fault != 0 || kind != WORD || behind - first != word.length()) {
        return false;
      }
      for (int i = 0; i < word.length(); i++) {
        if (signs[first + i] != word.charAt(i)) {
          return false;
        }
      }
      return true;
    }

    boolean isSign(char sign) {
      return fault == 0 && kind == SIGN && signs[first] == sign;
    }

    /** Steps over the word, if it stands here. */
    boolean skipWord(String word) {
      boolean stands = isWord(word);
      if (stands) {
        step();
      }
      return stands;
    }

    /** The number that must stand here, not stepped over yet: more may be wrong with it. */
    int lookNumber(int least, int most) {
      if (kind != NUMBER) {
        blame(CANNOT_STAND);
      } else if (behind - first > MOST_FIGURES || value < least || value > most) {
        blame(OUT_OF_BOUNDS);
      }
      return fault == 0 ? value : least;
    }

    int takeNumber(int least, int most) {
      int number = lookNumber(least, most);
      step();
      return number;
    }

    /** The clause must end here: whether it is without a fault. */
    boolean closesClause() {
      if (!isSign(';')) {
        blame(CANNOT_STAND);
      }
      step();
      return fault == 0;
    }
  }

  /** The persons; the friends of each stand in the order of their ties. */
  private static final class Town {
    int persons;
    int ties;
    int silent;
    final int[] heed = new int[PERSONS];
    final int[] seat = new int[PERSONS];
    final int[] friends = new int[PERSONS];
    final int[] weight = new int[PERSONS];
    final int[] friend = new int[PERSONS * PERSONS];
    final int[] strength = new int[PERSONS * PERSONS];

    void copyFrom(Town other) {
      persons = other.persons;
      ties = other.ties;
      silent = other.silent;
      System.arraycopy(other.heed, 0, heed, 0, PERSONS);
      System.arraycopy(other.seat, 0, seat, 0, PERSONS);
      System.arraycopy(other.friends, 0, friends, 0, PERSONS);
      System.arraycopy(other.weight, 0, weight, 0, PERSONS);
      System.arraycopy(other.friend, 0, friend, 0, PERSONS * PERSONS);
      System.arraycopy(other.strength, 0, strength, 0, PERSONS * PERSONS);
    }

    void readFrom(Text text) {
      persons = 0;
      ties = 0;
      silent = 0;
      text.open();
      for (int clause = 0; clause < TEXT_BYTES && text.goesOn(); clause++) {
        if (text.isWord("person")) {
          readPerson(text);
        } else if (text.isWord("tie")) {
          readTie(text);
        } else {
          text.blame(CANNOT_STAND);
        }
      }
    }

    private void readPerson(Text text) {
      if (persons >= PERSONS) {
        text.blame(TOO_MANY);
        return;
      }
      text.step();
      int p = persons;
      heed[p] = text.takeNumber(0, MOST_HEED);
      silent |= text.skipWord("silent") ? 1 << p : 0;
      seat[p] = text.skipWord("at") ? text.takeNumber(0, PLACES - 1) : NONE;
      friends[p] = 0;
      weight[p] = 0;
      if (text.closesClause()) {
        persons++;
      }
    }

    private void readTie(Text text) {
      if (ties >= TIES) {
        text.blame(TOO_MANY);
        return;
      }
      text.step();
      int a = text.takeNumber(0, persons - 1);
      int b = text.lookNumber(0, persons - 1);
      if (text.fault == 0 && (a == b || strengthOf(a, b) != 0)) {
        text.blame(AGAIN);
      }
      text.step();
      int s = text.takeNumber(1, MOST_STRENGTH);
      if (text.closesClause()) {
        befriend(a, b, s);
        befriend(b, a, s);
        ties++;
      }
    }

    private void befriend(int a, int b, int s) {
      int at = friends[a];
      if (at < PERSONS) {
        friend[a * PERSONS + at] = b;
        strength[a * PERSONS + at] = s;
        friends[a] = at + 1;
        weight[a] += s;
      }
    }

    /** The strength of the tie of two; 0 without one. */
    int strengthOf(int a, int b) {
      for (int k = 0; k < friends[a]; k++) {
        if (friend[a * PERSONS + k] == b) {
          return strength[a * PERSONS + k];
        }
      }
      return 0;
    }

    /** The friend with whose tie the strengths so far come above the draw. */
    int friendBy(int p, int draw) {
      int sum = 0;
      for (int k = 0; k < friends[p]; k++) {
        sum += strength[p * PERSONS + k];
        if (sum > draw) {
          return friend[p * PERSONS + k];
        }
      }
      return NONE;
    }
  }

  /** The sayings; sets of them as bits. */
  private static final class Lore {
    int said;
    final int[] asks = new int[SAYINGS];
    final int[] answers = new int[SAYINGS];
    final int[] bars = new int[SAYINGS];
    final int[] joins = new int[SAYINGS];
    final int[] barred = new int[SAYINGS];

    void copyFrom(Lore other) {
      said = other.said;
      System.arraycopy(other.asks, 0, asks, 0, SAYINGS);
      System.arraycopy(other.answers, 0, answers, 0, SAYINGS);
      System.arraycopy(other.bars, 0, bars, 0, SAYINGS);
      System.arraycopy(other.joins, 0, joins, 0, SAYINGS);
      System.arraycopy(other.barred, 0, barred, 0, SAYINGS);
    }

    void readFrom(Text text) {
      said = 0;
      text.open();
      for (int clause = 0; clause < TEXT_BYTES && text.goesOn(); clause++) {
        if (text.isWord("say")) {
          readSaying(text);
        } else {
          text.blame(CANNOT_STAND);
        }
      }
    }

    private void readSaying(Text text) {
      if (said >= SAYINGS) {
        text.blame(TOO_MANY);
        return;
      }
      text.step();
      int s = said;
      asks[s] = text.skipWord("asks") ? text.takeNumber(0, LAST_QUESTION) : NONE;
      answers[s] = text.skipWord("answers") ? text.takeNumber(0, LAST_QUESTION) : NONE;
      bars[s] = text.skipWord("bars") ? readBarred(text) : 0;
      joins[s] = text.skipWord("joins") ? readJoined(text) : 0;
      if (text.closesClause()) {
        settleBarred(s);
        said++;
      }
    }

    private int readBarred(Text text) {
      int set = readUnlike(text, 0);
      for (int k = 0; k < TEXT_BYTES && text.isSign(','); k++) {
        text.step();
        set |= readUnlike(text, set);
      }
      return set;
    }

    private int readJoined(Text text) {
      int one = readUnlike(text, 0);
      return one | readUnlike(text, one);
    }

    /** A saying told ahead that is not in the set: its bit. */
    private int readUnlike(Text text, int set) {
      int bit = 1 << text.lookNumber(0, said - 1);
      if (text.fault == 0 && (set & bit) != 0) {
        text.blame(AGAIN);
      }
      text.step();
      return bit;
    }

    private void settleBarred(int s) {
      barred[s] = bars[s];
      for (int k = 0; k < s; k++) {
        if ((bars[s] >> k & 1) != 0) {
          barred[k] |= 1 << s;
        }
      }
    }

    /** The first saying that joins two; NONE. */
    int joinOf(int s, int r) {
      int both = 1 << s | 1 << r;
      for (int k = 0; k < said && s != r; k++) {
        if (joins[k] == both) {
          return k;
        }
      }
      return NONE;
    }

    /** Whether a saying answers what one of a set asks. */
    boolean answersOneOf(int s, int set) {
      for (int k = 0; k < said; k++) {
        if ((set >> k & 1) != 0 && asks[k] != NONE && asks[k] == answers[s]) {
          return true;
        }
      }
      return false;
    }
  }

  private static final class Rules {
    int known = 3;
    int moreHeed = 20;
  }

  /** Who holds what, how and from whom, and the draws: all that an image keeps. */
  private static final class Course {
    final int[] held = new int[PERSONS];
    final int[] telling = new int[PERSONS];
    final int[] giver = new int[CELLS];
    final int[] heardAs = new int[CELLS];
    final int[] since = new int[CELLS];
    final int[] known = new int[CELLS];
    final int[] toldBy = new int[CELLS];
    final int[] beginner = new int[BEGINNINGS];
    final int[] begunSaying = new int[BEGINNINGS];
    final int[] begunTick = new int[BEGINNINGS];
    int beginnings;
    int tick;
    int noes;
    long draws;
    boolean kept;

    /** As before anything began; the seed stays. */
    void clear() {
      Arrays.fill(held, 0);
      Arrays.fill(telling, 0);
      Arrays.fill(known, 0);
      Arrays.fill(toldBy, 0);
      beginnings = 0;
      tick = 0;
      noes = 0;
    }

    void copyFrom(Course other) {
      System.arraycopy(other.held, 0, held, 0, PERSONS);
      System.arraycopy(other.telling, 0, telling, 0, PERSONS);
      System.arraycopy(other.giver, 0, giver, 0, CELLS);
      System.arraycopy(other.heardAs, 0, heardAs, 0, CELLS);
      System.arraycopy(other.since, 0, since, 0, CELLS);
      System.arraycopy(other.known, 0, known, 0, CELLS);
      System.arraycopy(other.toldBy, 0, toldBy, 0, CELLS);
      System.arraycopy(other.beginner, 0, beginner, 0, BEGINNINGS);
      System.arraycopy(other.begunSaying, 0, begunSaying, 0, BEGINNINGS);
      System.arraycopy(other.begunTick, 0, begunTick, 0, BEGINNINGS);
      beginnings = other.beginnings;
      tick = other.tick;
      noes = other.noes;
      draws = other.draws;
    }

    int draw(int n) {
      draws = (draws * 1103515245L + 12345L) % SEEDS;
      return n > 0 ? (int) (draws / 65536L % n) : 0;
    }

    boolean has(int p, int s) {
      return (held[p] >> s & 1) != 0;
    }

    int stateOf(int p, int s) {
      if (!has(p, s)) {
        return 0;
      }
      return (telling[p] >> s & 1) != 0 ? TELLS : TIRED;
    }

    /** The persons who hold a saying. */
    int setOf(int s, int persons) {
      int set = 0;
      for (int p = 0; p < persons && p < PERSONS; p++) {
        if (has(p, s)) {
          set |= 1 << p;
        }
      }
      return set;
    }

    /** A person comes to hold a saying that reached it as another one, if it is a join. */
    void take(int p, int s, int from, int as) {
      int cell = p * SAYINGS + s;
      held[p] |= 1 << s;
      telling[p] |= 1 << s;
      giver[cell] = from;
      heardAs[cell] = as;
      since[cell] = tick;
    }

    void noteBeginning(int p, int s) {
      if (beginnings < BEGINNINGS) {
        beginner[beginnings] = p;
        begunSaying[beginnings] = s;
        begunTick[beginnings] = tick;
        beginnings++;
      }
    }

    /** What began elsewhere at this tick, of the sayings of a set, begins here; who holds it already goes on. */
    void beginAsIn(Course other, int set) {
      for (int k = 0; k < other.beginnings; k++) {
        int p = other.beginner[k];
        int s = other.begunSaying[k];
        if (other.begunTick[k] == tick && (set >> s & 1) != 0 && !has(p, s)) {
          take(p, s, NOBODY, s);
        }
      }
    }

    /** Of what a person tells that which it came to hold latest; NONE. */
    int newestOf(int p) {
      int newest = NONE;
      for (int s = 0; s < SAYINGS; s++) {
        boolean tells = (telling[p] >> s & 1) != 0;
        if (tells && (newest == NONE || since[p * SAYINGS + s] >= since[p * SAYINGS + newest])) {
          newest = s;
        }
      }
      return newest;
    }

    void hearKnown(int p, int s, int most) {
      int cell = p * SAYINGS + s;
      known[cell]++;
      if (known[cell] >= most) {
        telling[p] &= ~(1 << s);
      }
    }
  }

  /** How a course goes on in a town, tick by tick, and what a notice does. */
  private static final class Telling {
    private final Town people;
    private final Lore lore;
    private final Rules rules;

    Telling(Town people, Lore lore, Rules rules) {
      this.people = people;
      this.lore = lore;
      this.rules = rules;
    }

    /** Ticks go by: how often someone came to hold something. */
    int pass(Course c, int ticks) {
      int came = 0;
      for (int k = 0; k < ticks; k++) {
        came += tell(c);
      }
      return came;
    }

    /** One tick; who may tell is settled ahead of it. */
    int tell(Course c) {
      int tellers = 0;
      for (int p = 0; p < people.persons; p++) {
        if (c.telling[p] != 0 && (people.silent >> p & 1) == 0 && people.friends[p] > 0) {
          tellers |= 1 << p;
        }
      }
      int came = 0;
      for (int p = 0; p < people.persons && tellers != 0; p++) {
        if ((tellers >> p & 1) != 0 && tellsOne(c, p)) {
          came++;
        }
      }
      c.tick++;
      return came;
    }

    /** One person tells another: whether that one came to hold something. */
    private boolean tellsOne(Course c, int p) {
      int b = people.friendBy(p, c.draw(people.weight[p]));
      int s = c.newestOf(p);
      if (b == NONE || s == NONE) {
        return false;
      }
      c.toldBy[b * SAYINGS + s] |= 1 << p;
      if (c.has(b, s)) {
        c.hearKnown(p, s, rules.known);
        return false;
      }
      int against = c.held[b] & lore.barred[s];
      if (against != 0) {
        return joins(c, p, b, s);
      }
      if (c.draw(HUNDRED) >= heedFor(c, b, s)) {
        return false;
      }
      c.take(b, s, p, s);
      return true;
    }

    /** B puts the first saying that bars it and the told one in one, or says no. */
    private boolean joins(Course c, int p, int b, int s) {
      int other = firstOf(c.held[b] & lore.barred[s]);
      int join = other == NONE ? NONE : lore.joinOf(s, other);
      if (join == NONE || c.has(b, join)) {
        c.noes++;
        return false;
      }
      c.take(b, join, p, s);
      return true;
    }

    private static int firstOf(int set) {
      for (int k = 0; k < SAYINGS; k++) {
        if ((set >> k & 1) != 0) {
          return k;
        }
      }
      return NONE;
    }

    private int heedFor(Course c, int b, int s) {
      int more = lore.answersOneOf(s, c.held[b]) ? rules.moreHeed : 0;
      return Math.min(MOST_HEED, people.heed[b] + more);
    }

    /** A notice at a place: how many came to hold the saying. */
    int post(Course c, int place, int s, int b) {
      int came = 0;
      for (int p = 0; p < people.persons; p++) {
        if (people.seat[p] == place && c.draw(HUNDRED) < b) {
          if (!c.has(p, s)) {
            c.take(p, s, BY_NOTICE, s);
            came++;
          }
          c.telling[p] &= ~lore.barred[s];
        }
      }
      return came;
    }
  }

  /** From whom each has what it holds, back to the root. */
  private static final class Ways {
    private final Course course;
    final int[] path = new int[CELLS];
    int length;

    Ways(Course course) {
      this.course = course;
    }

    /** Each step goes to what was held earlier, so no pair of person and saying comes twice. */
    void trace(int p, int s) {
      int at = p;
      int said = s;
      length = 0;
      for (int k = 0; k < CELLS && at >= 0 && at < PERSONS; k++) {
        if (!course.has(at, said)) {
          return;
        }
        path[length] = at;
        length++;
        int cell = at * SAYINGS + said;
        at = course.giver[cell];
        said = course.heardAs[cell];
      }
    }

    private boolean comesBy(int p) {
      for (int k = 0; k < length; k++) {
        if (path[k] == p) {
          return true;
        }
      }
      return false;
    }

    /** Whether one told it of its own: the way it has it, traced here, doesn't come by the one told. */
    private boolean toldApart(int teller, int p, int s) {
      if ((course.toldBy[p * SAYINGS + s] >> teller & 1) == 0) {
        return false;
      }
      trace(teller, s);
      return !comesBy(p);
    }

    int rootsBehind(int p, int s) {
      int roots = 0;
      for (int q = 0; q < PERSONS; q++) {
        if (toldApart(q, p, s) && length > 0) {
          roots |= 1 << path[length - 1];
        }
      }
      return Integer.bitCount(roots);
    }

    int splitBehind(int p, int s) {
      int most = 0;
      for (int from = 0; from < PERSONS; from++) {
        int number = 0;
        for (int q = 0; q < PERSONS; q++) {
          if (course.giver[q * SAYINGS + s] == from && toldApart(q, p, s)) {
            number++;
          }
        }
        most = Math.max(most, number);
      }
      return most;
    }

    /** Those but a person whose way of a saying comes by it. */
    int thoseBy(int p, int s) {
      int set = 0;
      for (int q = 0; q < PERSONS; q++) {
        if (q != p && course.has(q, s)) {
          trace(q, s);
          if (comesBy(p)) {
            set |= 1 << q;
          }
        }
      }
      return set;
    }
  }

  /** What those asked say, and whither it leads. */
  private static final class Interviews {
    private int asked;
    private final int[] saysFrom = new int[PERSONS];
    private final int[] saysTick = new int[PERSONS];

    void clear() {
      asked = 0;
    }

    int number() {
      return Integer.bitCount(asked);
    }

    boolean has(int p) {
      return (asked >> p & 1) != 0;
    }

    int put(int p, int from, int tick) {
      asked |= 1 << p;
      saysFrom[p] = from;
      saysTick[p] = tick;
      return number();
    }

    /** Where the words lead from one asked; NONE, if they go round. */
    int endOf(int p) {
      int at = p;
      for (int k = 0; k <= PERSONS; k++) {
        if (at < 0 || at >= PERSONS) {
          return NONE;
        }
        if (!has(at) || saysFrom[at] == NOBODY) {
          return at;
        }
        at = saysFrom[at];
      }
      return NONE;
    }

    /** The end to which most lead, if told so of those that were not asked alone; NONE. */
    int mostLedTo(boolean unaskedAlone) {
      int most = 0;
      int best = NONE;
      for (int e = 0; e < PERSONS; e++) {
        int led = unaskedAlone && has(e) ? 0 : leadingTo(e);
        if (led > most) {
          most = led;
          best = e;
        }
      }
      return best;
    }

    private int leadingTo(int e) {
      int number = 0;
      for (int p = 0; p < PERSONS; p++) {
        if (has(p) && endOf(p) == e) {
          number++;
        }
      }
      return number;
    }

    int falseOnes() {
      int set = 0;
      for (int p = 0; p < PERSONS; p++) {
        if (has(p) && (endOf(p) == NONE || isTooEarly(p))) {
          set |= 1 << p;
        }
      }
      return set;
    }

    private boolean isTooEarly(int p) {
      int from = saysFrom[p];
      return from >= 0 && from < PERSONS && has(from) && saysTick[from] >= saysTick[p];
    }
  }

  /** The first persons, reckoned exactly over all sets of those told. */
  private static final class Net {
    private final Town people;
    /** Of a thousand: that one stays untold by another alone. */
    private final int[] stays = new int[NET_PERSONS * NET_PERSONS];
    private final long[] odds = new long[NET_SETS];
    private final int[] partSet = new int[NET_PARTS];
    private final long[] partOdds = new long[NET_PARTS];
    private int parts;
    /** Whether what stays is reckoned for the town as it is. */
    boolean ready;

    Net(Town people) {
      this.people = people;
    }

    int size() {
      return Math.min(NET_PERSONS, people.persons);
    }

    private void prepare() {
      if (ready) {
        return;
      }
      for (int p = 0; p < size(); p++) {
        for (int q = 0; q < size(); q++) {
          stays[p * NET_PERSONS + q] = THOUSAND - people.strengthOf(p, q) * people.heed[p] / 10;
        }
      }
      ready = true;
    }

    /** Of a thousand: that one is told in a step in which a set is told. */
    private int tellOf(int set, int p) {
      int stay = THOUSAND;
      for (int q = 0; q < NET_PERSONS; q++) {
        if ((set >> q & 1) != 0) {
          stay = stay * stays[p * NET_PERSONS + q] / THOUSAND;
        }
      }
      return THOUSAND - stay;
    }

    /** The odds of all sets so many steps behind one set. */
    private void spread(int from, int steps) {
      prepare();
      Arrays.fill(odds, 0L);
      odds[from] = BILLION;
      int last = (1 << size()) - 1;
      for (int k = 0; k < steps; k++) {
        // A set's odds go to greater sets alone: from the greatest on, none is parted twice in a step.
        for (int set = last; set >= from; set--) {
          if (odds[set] != 0) {
            part(set);
          }
        }
      }
    }

    /** One at least is told where odds are parted, so there are at most half as many parts as sets. */
    private void part(int set) {
      partSet[0] = set;
      partOdds[0] = odds[set];
      parts = 1;
      odds[set] = 0;
      for (int p = 0; p < size(); p++) {
        if ((set >> p & 1) == 0) {
          partBy(p, tellOf(set, p));
        }
      }
      for (int k = 0; k < parts; k++) {
        odds[partSet[k]] += partOdds[k];
      }
    }

    private void partBy(int p, int tell) {
      if (tell == 0) {
        return;
      }
      int before = parts;
      for (int k = 0; k < before && parts < NET_PARTS; k++) {
        long told = partOdds[k] * tell / THOUSAND;
        if (told != 0) {
          partOdds[k] -= told;
          partSet[parts] = partSet[k] | 1 << p;
          partOdds[parts] = told;
          parts++;
        }
      }
    }

    int reachOf(int a, int p, int steps) {
      spread(1 << a, steps);
      long sum = 0;
      for (int set = 0; set < 1 << size(); set++) {
        if ((set >> p & 1) != 0) {
          sum += odds[set];
        }
      }
      return (int) (sum / THOUSAND);
    }

    int manyOf(int from, int steps) {
      spread(from, steps);
      long sum = 0;
      for (int set = 0; set < 1 << size(); set++) {
        sum += odds[set] * Integer.bitCount(set);
      }
      return (int) (sum / MILLION);
    }

    int beganOf(int a, int set, int steps) {
      long own = 0;
      long sum = 0;
      for (int p = 0; p < size(); p++) {
        spread(1 << p, steps);
        sum += odds[set];
        if (p == a) {
          own = odds[set];
        }
      }
      return sum == 0 ? 0 : (int) (MILLION * own / sum);
    }

    int bestToSpeak(int k, int steps) {
      int best = NONE;
      int most = NONE;
      for (int set = 0; set < 1 << size(); set++) {
        if (Integer.bitCount(set) == k) {
          int told = manyOf(set, steps);
          if (told > most) {
            most = told;
            best = set;
          }
        }
      }
      return best;
    }
  }

  /** Markets, roads, reports of a fear; the source sought last. */
  private static final class Land {
    private final int[] days = new int[MARKETS * MARKETS];
    private final int[] far = new int[MARKETS * MARKETS];
    private final int[] heardOn = new int[MARKETS];
    int heard;
    int market;
    int firstDay;
    int lateness;

    Land() {
      Arrays.fill(heardOn, NONE);
    }

    int lay(int a, int b, int d) {
      int was = days[a * MARKETS + b];
      days[a * MARKETS + b] = d;
      days[b * MARKETS + a] = d;
      return was;
    }

    int hear(int m, int day) {
      if (heardOn[m] == NONE) {
        heard++;
      }
      heardOn[m] = day;
      return heard;
    }

    void hush() {
      Arrays.fill(heardOn, NONE);
      heard = 0;
    }

    /** The least sums of days between all markets. */
    void measure() {
      for (int a = 0; a < MARKETS; a++) {
        for (int b = 0; b < MARKETS; b++) {
          int straight = days[a * MARKETS + b];
          far[a * MARKETS + b] = a == b ? 0 : straight == 0 ? NO_WAY : straight;
        }
      }
      for (int over = 0; over < MARKETS; over++) {
        for (int a = 0; a < MARKETS; a++) {
          for (int b = 0; b < MARKETS; b++) {
            int sum = far[a * MARKETS + over] + far[over * MARKETS + b];
            far[a * MARKETS + b] = Math.min(far[a * MARKETS + b], sum);
          }
        }
      }
    }

    /** Finds the source by a pace, over the sums measured: market, first day, lateness. */
    void seek(int pace) {
      market = NONE;
      for (int m = 0; m < MARKETS && heard > 0; m++) {
        if (reachesReports(m)) {
          int day = latestStart(m, pace);
          int late = latenessOf(m, pace, day);
          if (market == NONE || late < lateness) {
            market = m;
            firstDay = day;
            lateness = late;
          }
        }
      }
    }

    private boolean reachesReports(int m) {
      for (int r = 0; r < MARKETS; r++) {
        if (heardOn[r] != NONE && far[m * MARKETS + r] >= NO_WAY) {
          return false;
        }
      }
      return true;
    }

    private int farness(int m, int r, int pace) {
      return far[m * MARKETS + r] * pace / 10;
    }

    private int latestStart(int m, int pace) {
      int day = LAST_DAY;
      for (int r = 0; r < MARKETS; r++) {
        if (heardOn[r] != NONE) {
          day = Math.min(day, heardOn[r] - farness(m, r, pace));
        }
      }
      return day;
    }

    private int latenessOf(int m, int pace, int day) {
      int late = 0;
      for (int r = 0; r < MARKETS; r++) {
        if (heardOn[r] != NONE) {
          late += heardOn[r] - day - farness(m, r, pace);
        }
      }
      return late;
    }

    int bestPace() {
      measure();
      int best = NONE;
      int least = 0;
      for (int pace = 1; pace <= MOST_PACE; pace++) {
        seek(pace);
        if (market != NONE && (best == NONE || lateness < least)) {
          best = pace;
          least = lateness;
        }
      }
      return best;
    }
  }
}
