/** Promises 22 to 26 and part 3 of the terms: each sentence that names an edge has a method of its own. */
public final class EdgesOfInterviewsTest {
  private static final int LOW = Integer.MIN_VALUE, HIGH = Integer.MAX_VALUE;
  private static final String ALL = "person0;".repeat(24);

  public static void main(String[] args) {
    askedOfEach();
    newerOneCounts();
    fromAnotherOrNobody();
    tick0To9999();
    forgetNoneAndAll();
    endIsItself();
    endNotAsked();
    endOfTheLongestWay();
    endGoesRoundOfTwo();
    endGoesRoundOfAll();
    endLeadsIntoARound();
    endRefusals();
    beginnerOfNone();
    beginnerByMost();
    beginnerOfLikeOnes();
    nextWasNotAsked();
    nextOfLikeOnes();
    falseIfNotEarlier();
    falseIfRound();
    falseAllOrNone();
    whoRefusals();
    bestOneTo100Ticks();
    bestHeldJustAtU();
    bestWaitsLessThanU();
    bestWaitsToNine();
    bestOfLikePlaces();
    bestOfLikeTicks();
    bestNoneIfAsMany();
    bestNoneIfFewer();
    bestByDrawsAlone();
    bestGoesOnFromNow();
    bestRefusals();
    Check.end();
  }

  // "An INTERVIEW: how many PERSONS were asked"
  private static void askedOfEach() {
    TwoRumours x = Check.with(ALL, "");
    for (int p = 0; p < 24; p++) {
      Check.due("ask " + p, x.ask(p, 23 - p, p), p + 1);
    }
    Check.due("all", x.count(6), 24);
    Check.due("one again", x.ask(23, -2, 1), 24);
  }

  // "(one of a PERSON, the newer one counts)"
  private static void newerOneCounts() {
    TwoRumours x = Check.with(ALL, "");
    x.ask(0, 1, 5);
    x.ask(2, 0, 6);
    Check.due("leads to 1", x.end(2), 1);
    Check.due("no one is false", x.who(2), 0);
    Check.due("still two", x.ask(0, 3, 7), 2);
    Check.due("leads to 3", x.end(2), 3);
    Check.due("by its tick 2 is false", x.who(2), 4);
    Check.due("still two", x.ask(0, -2, 0), 2);
    Check.due("leads to 0", x.end(2), 0);
    Check.due("none is false", x.who(2), 0);
  }

  // "UNKNOWN (from: a PERSON other than p, or NOBODY)"
  private static void fromAnotherOrNobody() {
    TwoRumours x = Check.with("person0;person0;person0;", "");
    for (int p : new int[] {LOW, -2, -1, 3, 24, HIGH}) {
      Check.due("person " + p, x.ask(p, 0, 5), Check.UNKNOWN);
      Check.due("from itself, unknown both", x.ask(p, p, 5), Check.UNKNOWN);
    }
    for (int from : new int[] {LOW, -3, -1, 3, 24, HIGH}) {
      Check.due("from " + from, x.ask(0, from, 5), Check.UNKNOWN);
      Check.due("UNKNOWN ahead of OUTSIDE", x.ask(0, from, 10000), Check.UNKNOWN);
    }
    for (int p = 0; p < 3; p++) {
      Check.due("from itself", x.ask(p, p, 5), Check.UNKNOWN);
    }
    Check.due("nobody was asked", x.count(6), 0);
    Check.due("from the last", x.ask(0, 2, 5), 1);
    Check.due("from nobody", x.ask(2, -2, 5), 2);
  }

  // "at which TICK (0 .. 9999)"
  private static void tick0To9999() {
    TwoRumours x = Check.with("person0;person0;", "");
    for (int tick : new int[] {LOW, -1, 10000, HIGH}) {
      Check.due("tick " + tick, x.ask(0, 1, tick), Check.OUTSIDE);
      Check.due("not asked", x.end(0), Check.NOT);
    }
    Check.due("0", x.ask(0, 1, 0), 1);
    Check.due("9999", x.ask(1, -2, 9999), 2);
    Check.due("9999 is not earlier than 0", x.who(2), 1);
    x.ask(0, 1, 9999);
    Check.due("nor than 9999", x.who(2), 1);
    x.ask(1, -2, 9998);
    Check.due("9998 is", x.who(2), 0);
    Check.due("refused", x.ask(0, -2, 10000), Check.OUTSIDE);
    Check.due("the older one still counts", x.end(0), 1);
  }

  // "No INTERVIEWS: how many there were"
  private static void forgetNoneAndAll() {
    TwoRumours x = Check.with(ALL, "");
    Check.due("none", x.forget(), 0);
    for (int p = 0; p < 24; p++) {
      x.ask(p, -2, 0);
    }
    Check.due("all", x.forget(), 24);
    Check.due("none any more", x.forget(), 0);
    Check.due("none", x.count(6), 0);
    Check.due("not asked", x.end(23), Check.NOT);
  }

  // "till one that ... says NOBODY"
  private static void endIsItself() {
    TwoRumours x = Check.with(ALL, "");
    x.ask(23, -2, 0);
    Check.due("itself", x.end(23), 23);
    x.ask(0, 23, 1);
    Check.due("the one that says NOBODY", x.end(0), 23);
  }

  // "NOT: it was not asked"
  private static void endNotAsked() {
    TwoRumours x = Check.with(ALL, "");
    x.ask(0, 1, 1);
    Check.due("one who was named alone", x.end(1), Check.NOT);
    Check.due("one not asked is the end", x.end(0), 1);
  }

  private static void endOfTheLongestWay() {
    TwoRumours x = Check.with(ALL, "");
    for (int p = 0; p < 23; p++) {
      x.ask(p, p + 1, 100 - p);
    }
    for (int p = 0; p < 23; p++) {
      Check.due("to the last, not asked", x.end(p), 23);
    }
    x.ask(23, -2, 1);
    for (int p = 0; p < 24; p++) {
      Check.due("to the last, asked", x.end(p), 23);
    }
    Check.due("the beginner", x.who(0), 23);
    Check.due("none is false", x.who(2), 0);
  }

  // "none, if it goes round"
  private static void endGoesRoundOfTwo() {
    TwoRumours x = Check.with("person0;person0;person0;", "");
    x.ask(0, 1, 1);
    x.ask(1, 0, 1);
    Check.due("0", x.end(0), Check.NONE);
    Check.due("1", x.end(1), Check.NONE);
  }

  private static void endGoesRoundOfAll() {
    TwoRumours x = Check.with(ALL, "");
    for (int p = 0; p < 24; p++) {
      x.ask(p, (p + 1) % 24, 50);
    }
    for (int p = 0; p < 24; p++) {
      Check.due("round", x.end(p), Check.NONE);
    }
    Check.due("no beginner", x.who(0), Check.NONE);
    Check.due("no next", x.who(1), Check.NONE);
    Check.due("all are false", x.who(2), 0xffffff);
  }

  private static void endLeadsIntoARound() {
    TwoRumours x = Check.with(ALL, "");
    x.ask(23, 22, 1);
    x.ask(22, 23, 1);
    for (int p = 0; p < 22; p++) {
      x.ask(p, p + 1, 1);
    }
    Check.due("22 ahead of the round", x.end(0), Check.NONE);
    Check.due("just ahead of it", x.end(21), Check.NONE);
    x.ask(23, -2, 1);
    Check.due("no round any more", x.end(0), 23);
  }

  private static void endRefusals() {
    TwoRumours x = Check.with("person0;person0;", "");
    for (int p : new int[] {LOW, -2, -1, 2, 24, HIGH}) {
      Check.due("person " + p, x.end(p), Check.UNKNOWN);
    }
    Check.due("not asked", x.end(1), Check.NOT);
  }

  // "BEGINNER ... NONE"
  private static void beginnerOfNone() {
    TwoRumours x = Check.with(ALL, "");
    Check.due("nobody asked: no beginner", x.who(0), Check.NONE);
    Check.due("nobody asked: no next", x.who(1), Check.NONE);
    Check.due("nobody asked: none is false", x.who(2), 0);
    x.ask(0, 1, 1);
    x.ask(1, 0, 1);
    Check.due("all go round", x.who(0), Check.NONE);
    Check.due("no next", x.who(1), Check.NONE);
  }

  // "the END to which most of those asked lead (itself too, if asked)"
  private static void beginnerByMost() {
    TwoRumours x = Check.with(ALL, "");
    x.ask(5, -2, 1);
    x.ask(6, 5, 2);
    x.ask(7, 2, 2);
    x.ask(8, 2, 2);
    Check.due("two lead to 2, two to 5, itself too: the least", x.who(0), 2);
    x.ask(9, 6, 3);
    Check.due("three lead to 5", x.who(0), 5);
    Check.due("2 was not asked", x.who(1), 2);
  }

  // "of like ones the least"
  private static void beginnerOfLikeOnes() {
    TwoRumours x = Check.with(ALL, "");
    x.ask(0, 23, 1);
    Check.due("23 alone", x.who(0), 23);
    x.ask(1, 22, 1);
    Check.due("22 is less", x.who(0), 22);
    x.ask(2, -2, 1);
    Check.due("2 is less", x.who(0), 2);
  }

  // "NEXT: of ENDS that were not asked that to which most lead ... NONE"
  private static void nextWasNotAsked() {
    TwoRumours x = Check.with(ALL, "");
    x.ask(1, -2, 1);
    Check.due("all ends were asked", x.who(1), Check.NONE);
    x.ask(2, 1, 2);
    x.ask(3, 9, 2);
    Check.due("most lead to 1, that was asked", x.who(0), 1);
    Check.due("9 was not", x.who(1), 9);
    x.ask(9, 0, 1);
    Check.due("now it was: 0", x.who(1), 0);
    x.ask(0, -2, 0);
    Check.due("none", x.who(1), Check.NONE);
  }

  private static void nextOfLikeOnes() {
    TwoRumours x = Check.with(ALL, "");
    x.ask(0, 23, 1);
    x.ask(1, 22, 1);
    Check.due("the least", x.who(1), 22);
    x.ask(2, 23, 1);
    Check.due("the most", x.who(1), 23);
  }

  // "FALSE: those who say that they have it FROM one who says a TICK not earlier"
  private static void falseIfNotEarlier() {
    TwoRumours x = Check.with(ALL, "");
    x.ask(23, 22, 50);
    Check.due("from one not asked", x.who(2), 0);
    x.ask(22, -2, 51);
    Check.due("later", x.who(2), 1 << 23);
    x.ask(22, -2, 50);
    Check.due("at the same tick", x.who(2), 1 << 23);
    x.ask(22, -2, 49);
    Check.due("earlier", x.who(2), 0);
    x.ask(0, 23, 10);
    Check.due("only who says so, not on whom it leans", x.who(2), 1);
  }

  // "those who go round": whose END is none
  private static void falseIfRound() {
    TwoRumours x = Check.with(ALL, "");
    x.ask(0, 1, 10);
    x.ask(1, 2, 9);
    x.ask(2, 0, 8);
    Check.due("2 by its tick, the others as they go round", x.who(2), 7);
    x.ask(3, 0, 99);
    Check.due("one who leads into it", x.who(2), 15);
    x.ask(2, 5, 8);
    Check.due("none goes round any more", x.who(2), 0);
  }

  private static void falseAllOrNone() {
    TwoRumours x = Check.with(ALL, "");
    for (int p = 0; p < 24; p++) {
      x.ask(p, -2, 9999 - p);
    }
    Check.due("all began", x.who(2), 0);
    for (int p = 0; p < 23; p++) {
      x.ask(p, 23, 0);
    }
    Check.due("all but the last", x.who(2), 0x7fffff);
    Check.due("the beginner", x.who(0), 23);
  }

  // "who ... OUTSIDE"
  private static void whoRefusals() {
    TwoRumours x = Check.with(ALL, "");
    for (int what : new int[] {LOW, -1, 3, HIGH}) {
      Check.due("what " + what, x.who(what), Check.OUTSIDE);
    }
  }

  private static void bestIs(TwoRumours x, int[] call, int place, int wait, int held) {
    String which = "best(" + call[0] + ", " + call[1] + ", " + call[2] + ")";
    Check.due(which + " place", x.best(call[0], call[1], call[2], 0), place);
    Check.due(which + " wait", x.best(call[0], call[1], call[2], 1), wait);
    Check.due(which + " held", x.best(call[0], call[1], call[2], 2), held);
  }

  // "for a TICK u (1 .. 100 from now)"
  private static void bestOneTo100Ticks() {
    TwoRumours x = Check.with("person0at3;", "say;");
    bestIs(x, new int[] {0, 100, 1}, 3, 0, 1);
    bestIs(x, new int[] {0, 100, 100}, 3, 0, 1);
    for (int u : new int[] {LOW, -1, 0, 101, HIGH}) {
      Check.due("u " + u, x.best(0, 100, u, 0), Check.OUTSIDE);
    }
    // 0 tells it on to 1 in the one tick there is
    TwoRumours y = Check.with("person0at3;person100;tie0 1 1;", "say;");
    bestIs(y, new int[] {0, 100, 1}, 3, 0, 2);
  }

  // "most HOLD it u TICKS from now": not later, though the notice comes later
  private static void bestHeldJustAtU() {
    for (int u = 1; u <= 12; u++) {
      TwoRumours x = Check.with("person0at0;person100;person100;person100;tie0 1 1;tie1 2 1;tie2 3 1;tie0 2 1;", "say;say;");
      x.begin(1, 1);
      x.seed(31 * u);
      int[] due = byHand(x, u);
      bestIs(x, new int[] {0, 40, u}, due[0], due[1], due[2]);
    }
  }

  /** All notices of saying 0, believed by 40, made on the object itself from image 0. */
  private static int[] byHand(TwoRumours x, int u) {
    x.keep(0);
    x.go(u);
    int[] found = {Check.NONE, Check.NONE, Check.NONE};
    int most = Integer.bitCount(x.holders(0));
    for (int wait = 0; wait < Math.min(10, u); wait++) {
      x.goBack(0);
      if (wait > 0) {
        x.go(wait);
      }
      x.notice(0, 0, 40);
      x.go(u - wait);
      int held = Integer.bitCount(x.holders(0));
      if (held > most) {
        most = held;
        found = new int[] {0, wait, held};
      }
    }
    x.goBack(0);
    return found;
  }

  /** Two draws a tick go by (1 tells 2 in vain): the seed whose draw at a wait is the first below 50. */
  private static TwoRumours waits(int wait) {
    TwoRumours x = Check.with("person0at2;person0;person0silent;tie1 2 1;", "say;say;");
    x.begin(1, 1);
    int[] of = new int[2 * wait + 1];
    int[] least = new int[2 * wait + 1];
    int[] most = new int[2 * wait + 1];
    for (int k = 0; k <= 2 * wait; k++) {
      of[k] = 100;
      least[k] = k % 2 == 0 && k < 2 * wait ? 50 : 0;
      most[k] = k < 2 * wait ? 99 : 49;
    }
    x.seed(Check.seedWithin(of, least, most));
    return x;
  }

  // "0 to 9 TICKS from now (less than u)"
  private static void bestWaitsLessThanU() {
    for (int wait = 0; wait < 10; wait++) {
      TwoRumours x = waits(wait);
      bestIs(x, new int[] {0, 50, wait + 1}, 2, wait, 1);
      if (wait > 0) {
        bestIs(x, new int[] {0, 50, wait}, Check.NONE, Check.NONE, Check.NONE);
      }
    }
  }

  private static void bestWaitsToNine() {
    bestIs(waits(9), new int[] {0, 50, 100}, 2, 9, 1);
    bestIs(waits(10), new int[] {0, 50, 100}, Check.NONE, Check.NONE, Check.NONE);
  }

  // "of like ones the first (TICK by TICK, PLACE by PLACE)": of places
  private static void bestOfLikePlaces() {
    TwoRumours x = Check.with("person0at3;person0at1;person0at2;", "say;");
    bestIs(x, new int[] {0, 100, 20}, 1, 0, 1);
    TwoRumours y = Check.with("person0at3;person0at1;person0at3;person0at0;", "say;");
    bestIs(y, new int[] {0, 100, 20}, 3, 0, 2);
    TwoRumours all = Check.with("person0at3;person0at2;person0at1;person0at0;", "say;");
    bestIs(all, new int[] {0, 100, 20}, 0, 0, 1);
  }

  // of ticks first: place 3 now is ahead of place 0 a tick later
  private static void bestOfLikeTicks() {
    TwoRumours x = Check.with("person0at0;person0at0;person0at3;person0;person0silent;tie3 4 1;", "say;say;");
    x.begin(0, 0);
    x.begin(3, 1);
    // now: 3 by the first draw, 0 not by the second; a tick later: 0 by the fourth
    int[] of = {100, 100, 100, 100};
    x.seed(Check.seedWithin(of, new int[] {0, 50, 0, 0}, new int[] {49, 99, 99, 49}));
    bestIs(x, new int[] {0, 50, 2}, 3, 0, 2);
    // now none; a tick later 0 by the fourth, 3 not by the third
    x.seed(Check.seedWithin(of, new int[] {50, 50, 50, 0}, new int[] {99, 99, 99, 49}));
    bestIs(x, new int[] {0, 50, 2}, 0, 1, 2);
  }

  // "NONE, if without one as many do"
  private static void bestNoneIfAsMany() {
    TwoRumours x = Check.with("person0at0;person0;", "say;");
    bestIs(x, new int[] {0, 0, 100}, Check.NONE, Check.NONE, Check.NONE);
    x.begin(0, 0);
    bestIs(x, new int[] {0, 100, 100}, Check.NONE, Check.NONE, Check.NONE);
    TwoRumours nowhere = Check.with("person100;person100;tie0 1 1;", "say;");
    bestIs(nowhere, new int[] {0, 100, 100}, Check.NONE, Check.NONE, Check.NONE);
    nowhere.begin(0, 0);
    bestIs(nowhere, new int[] {0, 100, 100}, Check.NONE, Check.NONE, Check.NONE);
    TwoRumours nobody = Check.with("", "say;");
    bestIs(nobody, new int[] {0, 100, 100}, Check.NONE, Check.NONE, Check.NONE);
  }

  /** 0 tells 1; 2 sits at 0, in vain or not: its draw comes ahead of the draws of the telling. */
  private static TwoRumours shifted(int[] least, int[] most) {
    TwoRumours x = Check.with("person0;person50silent;person0at0;tie0 1 1;", "say;");
    x.begin(0, 0);
    x.seed(Check.seedWithin(new int[] {100, 100, 100}, least, most));
    return x;
  }

  // fewer by the one place where somebody sits, as many by the others
  private static void bestNoneIfFewer() {
    TwoRumours x = shifted(new int[] {0, 0, 50}, new int[] {99, 49, 99});
    bestIs(x, new int[] {0, 0, 1}, Check.NONE, Check.NONE, Check.NONE);
  }

  private static void bestByDrawsAlone() {
    TwoRumours x = shifted(new int[] {0, 50, 0}, new int[] {99, 99, 49});
    bestIs(x, new int[] {0, 0, 1}, 0, 0, 2);
  }

  // "tried from now with THE SEED as it is"
  private static void bestGoesOnFromNow() {
    TwoRumours x = Check.with("person0at0;person100at1;person100;tie1 2 1;", "say;say bars0;");
    x.seed(77);
    x.go(30);
    x.begin(2, 1);
    x.ask(0, 1, 5);
    int seed = Check.seedOf(x);
    // 1 comes to hold 1 in the first tick and says no to 0 then: a notice at 1 now alone tells it
    Check.due("how many", x.best(0, 100, 5, 2), 1);
    Check.due("where", x.best(0, 100, 5, 0), 0);
    x.best(0, 100, 100, 1);
    Check.due("the tick stays", x.count(4), 30);
    Check.due("the seed stays", Check.seedOf(x), seed);
    Check.due("nobody holds it", x.holders(0), 0);
    Check.due("who holds the other", x.holders(1), 4);
    Check.due("not tired", x.holds(2, 1, 0), 1);
    Check.due("NOs stay", x.count(5), 0);
    Check.due("one began", x.count(7), 1);
    Check.due("interviews stay", x.count(6), 1);
  }

  // "best ... UNKNOWN, OUTSIDE"
  private static void bestRefusals() {
    TwoRumours x = Check.with("person0at0;", "say;say;say;say;say;say;");
    bestIs(x, new int[] {5, 100, 1}, 0, 0, 1);
    for (int s : new int[] {LOW, -1, 6, HIGH}) {
      Check.due("saying " + s, x.best(s, 100, 1, 0), Check.UNKNOWN);
      Check.due("UNKNOWN ahead of OUTSIDE: b", x.best(s, 101, 1, 0), Check.UNKNOWN);
      Check.due("UNKNOWN ahead of OUTSIDE: u", x.best(s, 100, 0, 0), Check.UNKNOWN);
      Check.due("UNKNOWN ahead of OUTSIDE: what", x.best(s, 100, 1, 3), Check.UNKNOWN);
    }
    for (int b : new int[] {LOW, -1, 101, HIGH}) {
      Check.due("b " + b, x.best(0, b, 1, 0), Check.OUTSIDE);
    }
    for (int u : new int[] {LOW, -1, 0, 101, HIGH}) {
      Check.due("u " + u, x.best(0, 100, u, 0), Check.OUTSIDE);
    }
    for (int what : new int[] {LOW, -1, 3, HIGH}) {
      Check.due("what " + what, x.best(0, 100, 1, what), Check.OUTSIDE);
      Check.due("OUTSIDE ahead of NONE", x.best(0, 0, 1, what), Check.OUTSIDE);
    }
  }
}
