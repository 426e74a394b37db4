import java.util.regex.Matcher;
import java.util.regex.Pattern;

/** Promises 1 to 11 and part 1 of the terms: each sentence that names an edge has a method of its own. */
public final class EdgesOfTextsTest {
  private static final int LOW = Integer.MIN_VALUE, HIGH = Integer.MAX_VALUE;
  private static final String MOST_PERSONS = "person1;".repeat(24);

  public static void main(String[] args) {
    feedTakesOneToEightBytes();
    feedTakesTheLowestTheHighestFirst();
    feedIsFullAt600();
    townReads600Bytes();
    sayingsRead300Bytes();
    sayingsOf301BytesStay();
    persons24();
    heed0To100();
    place0To3OrNowhere();
    silentOrNot();
    tiesOfToldPersons();
    tiesOfTwoUnlikePersons();
    tiesOncePerPair();
    strength1To9();
    mostTiesThatATextTells();
    sayings6();
    questions0To9();
    barsToldAhead();
    barsEachOnce();
    joinsToldAhead();
    joinsTwoUnlike();
    barredEitherWay();
    joinIsTheFirst();
    numbersOfOneToThreeFigures();
    wordsOfLetters();
    wordsInTheirOrder();
    blanksAnywhereBetween();
    blanksNotWithin();
    blanksNeededBetween();
    commas();
    endsAtTheTextsLength();
    signsThatCannotStand();
    firstByteThenLeastNumber();
    emptyTexts();
    faultOfTheLatest();
    townLeavesAndTakes();
    sayingsLeaveAndTake();
    counts();
    personsAsked();
    tiesAsked();
    sayingsAsked();
    pairsAsked();
    rulesWithinBounds();
    Check.end();
  }

  // "The n lowest bytes (n 1 .. 8) of a long ... OUTSIDE"
  private static void feedTakesOneToEightBytes() {
    TwoRumours x = new TwoRumours();
    for (int n : new int[] {LOW, -8, -1, 0, 9, 10, 64, HIGH}) {
      Check.due("feed of " + n, x.feed(n, 0x2020202020202020L), Check.OUTSIDE);
      Check.due("nothing came", x.count(3), 0);
    }
    int bytes = 0;
    for (int n = 1; n <= 8; n++) {
      bytes += n;
      Check.due("feed of " + n, x.feed(n, 0x2020202020202020L), bytes);
    }
    Check.due("as many", x.count(3), 36);
  }

  // "The n lowest bytes of a long, the highest of these first, come behind THE TEXT"
  private static void feedTakesTheLowestTheHighestFirst() {
    TwoRumours x = new TwoRumours();
    x.feed(8, 0x706572736f6e373bL);
    Check.due("'person7;' in one", x.town(), 1);
    Check.due("its heed", x.person(0, 0), 7);
    for (char c : "person8;".toCharArray()) {
      x.feed(1, 0x4142434445464700L | c);
    }
    Check.due("one by one, with others above", x.town(), 1);
    Check.due("its heed", x.person(0, 0), 8);
    x.feed(7, 0xff706572736f6e39L);
    x.feed(1, -256L | ';');
    Check.due("seven and one", x.town(), 1);
    Check.due("its heed", x.person(0, 0), 9);
    x.feed(8, 0xe9706572736f6e37L);
    Check.due("byte 233 first", x.town(), -11);
    Check.due("at 0", x.fault(), 0);
    x.feed(8, 0x706572736f6e37e9L);
    Check.due("byte 233 last", x.town(), -11);
    Check.due("at 7", x.fault(), 7);
  }

  // "FULL (600)"
  private static void feedIsFullAt600() {
    TwoRumours x = new TwoRumours();
    for (int k = 1; k <= 75; k++) {
      Check.due("feed", x.feed(8, 0x2020202020202020L), 8 * k);
    }
    Check.due("the 601st", x.feed(1, 'x'), Check.FULL);
    Check.due("eight more", x.feed(8, 0), Check.FULL);
    Check.due("OUTSIDE ahead of FULL", x.feed(9, 0), Check.OUTSIDE);
    Check.due("OUTSIDE ahead of FULL", x.feed(0, 0), Check.OUTSIDE);
    Check.due("600 stay", x.count(3), 600);
    Check.due("what was refused is not in it", x.town(), 0);
    Check.due("empty again", x.feed(8, 0x2020202020202020L), 8);
    TwoRumours y = new TwoRumours();
    Check.feed(y, " ".repeat(593));
    Check.due("593 and 8", y.feed(8, 0x7878787878787878L), Check.FULL);
    Check.due("593 stay", y.count(3), 593);
    Check.due("593 and 7", y.feed(7, 0x20202020202020L), 600);
    Check.due("no part of the refused ones came", y.town(), 0);
  }

  // "THE TOWN is told in a text (600 bytes at most)"
  private static void townReads600Bytes() {
    TwoRumours x = new TwoRumours();
    Check.due("600 bytes, the last one ends the clause", Check.town(x, " ".repeat(592) + "person7;"), 1);
    Check.due("no fault", x.fault(), Check.NONE);
    Check.townFault(" ".repeat(593) + "person7", 1, 600);
    Check.townFault(" ".repeat(594) + "person", 1, 600);
    Check.townFault(" ".repeat(599) + "x", 1, 599);
    Check.townFault(" ".repeat(600), 0, Check.NONE);
  }

  // "SAYINGS are told in a text (300 bytes at most)"
  private static void sayingsRead300Bytes() {
    TwoRumours x = new TwoRumours();
    Check.due("300 bytes", Check.sayings(x, " ".repeat(296) + "say;"), 1);
    Check.due("no fault", x.fault(), Check.NONE);
    Check.sayingsFault(" ".repeat(297) + "say", 1, 300);
    Check.sayingsFault(" ".repeat(299) + "x", 1, 299);
    Check.sayingsFault(" ".repeat(300), 0, Check.NONE);
  }

  // "NOT: more than 300 bytes (THE TEXT stays)"
  private static void sayingsOf301BytesStay() {
    TwoRumours x = Check.with("", "say;say;");
    Check.feed(x, " ".repeat(293) + "person7;");
    Check.due("301 bytes", x.sayings(), Check.NOT);
    Check.due("again", x.sayings(), Check.NOT);
    Check.due("the text stays", x.count(3), 301);
    Check.due("the sayings stay", x.count(2), 2);
    Check.due("the same text as a town", x.town(), 1);
    Check.due("its heed", x.person(0, 0), 7);
    Check.feed(x, "x".repeat(600));
    Check.due("600 bytes", x.sayings(), Check.NOT);
    Check.due("they stay", x.count(3), 600);
    Check.due("its fault is not looked at", x.fault(), Check.NONE);
  }

  // "24 PERSONS at most"; "3 a 25th PERSON (at its first letter)"
  private static void persons24() {
    TwoRumours x = new TwoRumours();
    Check.due("23", Check.town(x, "person1;".repeat(23)), 23);
    Check.due("24", Check.town(x, MOST_PERSONS), 24);
    Check.due("24 and a tie of the last", Check.town(x, MOST_PERSONS + "tie0 23 9;"), 24);
    Check.due("it stands", x.tie(23, 0), 9);
    Check.townFault(MOST_PERSONS + "person1;", 3, 192);
    Check.townFault(MOST_PERSONS + "   person1;", 3, 195);
    Check.townFault(MOST_PERSONS + "person", 3, 192);
    Check.townFault(MOST_PERSONS + "person101;", 3, 192);
    Check.townFault(MOST_PERSONS + "tie0 1 1;person1;", 3, 201);
    Check.townFault(MOST_PERSONS + "perso", 1, 192);
    Check.townFault(MOST_PERSONS + "persons1;", 1, 192);
    Check.townFault(MOST_PERSONS + "tie 0 24 1;", 2, 198);
    Check.due("all as it was", x.count(0), 24);
  }

  // "HEED 0 .. 100"
  private static void heed0To100() {
    TwoRumours x = new TwoRumours();
    Check.due("0 and 100", Check.town(x, "person 0;person 100;person 1;person 99;"), 4);
    int[] heed = {0, 100, 1, 99};
    for (int p = 0; p < 4; p++) {
      Check.due("heed of " + p, x.person(p, 0), heed[p]);
    }
    Check.townFault("person 101;", 2, 7);
    Check.townFault("person 999;", 2, 7);
    Check.townFault("person 50;person 101;", 2, 17);
  }

  // "PLACE 0 .. 3, without one nowhere"
  private static void place0To3OrNowhere() {
    TwoRumours x = new TwoRumours();
    Check.due("0 to 3", Check.town(x, "person1at0;person1at1;person1at2;person1at3;person1;person1silent;person1silent at0;"), 7);
    int[] place = {0, 1, 2, 3, Check.NONE, Check.NONE, 0};
    for (int p = 0; p < 7; p++) {
      Check.due("place of " + p, x.person(p, 2), place[p]);
    }
    Check.townFault("person1at4;", 2, 9);
    Check.townFault("person1at999;", 2, 9);
    Check.townFault("person1silent at4;", 2, 16);
  }

  private static void silentOrNot() {
    TwoRumours x = new TwoRumours();
    Check.town(x, "person1silent;person1;".repeat(12));
    for (int p = 0; p < 24; p++) {
      Check.due("silent " + p, x.person(p, 1), p % 2 == 0 ? 1 : 0);
    }
    Check.town(x, MOST_PERSONS);
    for (int p = 0; p < 24; p++) {
      Check.due("no more silent " + p, x.person(p, 1), 0);
    }
  }

  // "2 a PERSON that was not told yet (at its first)"
  private static void tiesOfToldPersons() {
    Check.townFault("tie0 1 1;", 2, 3);
    Check.townFault("person1;tie0 1 1;", 2, 13);
    Check.townFault("person1;tie1 0 1;", 2, 11);
    Check.townFault("person1;tie2 3 1;", 2, 11);
    Check.townFault("person1;tie0 1 1;person1;", 2, 13);
    Check.townFault("person1;person1;tie0 1 1;", 0, Check.NONE);
    Check.townFault("person1;person1;tie1 0 1;", 0, Check.NONE);
    Check.townFault("person1;person1;tie0 2 1;", 2, 21);
    Check.townFault("person1;person1;tie0 999 1;", 2, 21);
    Check.townFault("person1;person1;tie0 1000 1;", 2, 21);
  }

  // "two unlike PERSONS"; "4 a tie of one with itself (at the B)"
  private static void tiesOfTwoUnlikePersons() {
    Check.townFault("person1;tie0 0 1;", 4, 13);
    Check.townFault("person1;tie0 00 1;", 4, 13);
    Check.townFault("person1;person1;tie1   1 1;", 4, 23);
    Check.townFault("person1;tie0 0", 4, 13);
    Check.townFault(MOST_PERSONS + "tie23 23 1;", 4, 198);
  }

  // "each pair once, either way round"; "4 a pair again (at the B)"
  private static void tiesOncePerPair() {
    Check.townFault("person1;person1;tie0 1 1;tie0 1 1;", 4, 30);
    Check.townFault("person1;person1;tie0 1 1;tie1 0 1;", 4, 30);
    Check.townFault("person1;person1;tie1 0 1;tie0 1 9;", 4, 30);
    Check.townFault("person1;person1;person1;tie0 1 1;tie1 2 1;tie2 0 1;", 0, Check.NONE);
    Check.townFault("person1;person1;person1;tie0 1 1;tie1 2 1;tie2 0 1;tie2 1 1;", 4, 56);
    Check.townFault("person1;person1;tie0 1 1;tie0 1", 4, 30);
    TwoRumours x = Check.with("person1;person1;tie0 1 1;", "");
    Check.due("a new town knows no pair of the old", Check.town(x, "person1;person1;tie1 0 2;"), 2);
    Check.due("its strength", x.tie(0, 1), 2);
  }

  // "strength 1 .. 9"
  private static void strength1To9() {
    TwoRumours x = new TwoRumours();
    Check.due("1 and 9", Check.town(x, "person1;person1;person1;tie0 1 1;tie0 2 9;"), 3);
    Check.due("1", x.tie(0, 1), 1);
    Check.due("9", x.tie(0, 2), 9);
    Check.townFault("person1;person1;tie0 1 0;", 2, 23);
    Check.townFault("person1;person1;tie0 1 10;", 2, 23);
    Check.townFault("person1;person1;tie0 1 999;", 2, 23);
    Check.townFault("person1;person1;tie0 1 1000;", 2, 23);
    Check.townFault("person1;person1;tie0 1 009;", 0, Check.NONE);
  }

  // "60 TIES at most": 600 bytes tell 55 at most, the 56th TIE finds FULL ahead of its fault
  private static void mostTiesThatATextTells() {
    StringBuilder text = new StringBuilder("person1;".repeat(11));
    for (int b = 1; b < 11; b++) {
      for (int a = 0; a < b; a++) {
        text.append("tie").append(a).append(' ').append(b).append(' ').append(1 + (a + b) % 9).append(';');
      }
    }
    TwoRumours x = new TwoRumours();
    Check.due("593 bytes", text.length(), 593);
    Check.due("55 ties of eleven", Check.town(x, text.toString()), 11);
    Check.due("ties", x.count(1), 55);
    for (int a = 0; a < 11; a++) {
      int sum = 0;
      for (int b = 0; b < 11; b++) {
        int strength = a == b ? 0 : 1 + (a + b) % 9;
        sum += strength;
        Check.due("tie " + a + " " + b, x.tie(a, b), strength);
      }
      Check.due("ties of " + a, x.person(a, 3), 10);
      Check.due("their strengths", x.person(a, 4), sum);
    }
  }

  // "SAYINGS (6 at most)"; "3 a seventh SAYING (at its first letter)"
  private static void sayings6() {
    TwoRumours x = new TwoRumours();
    Check.due("six", Check.sayings(x, "say;".repeat(6)), 6);
    Check.sayingsFault("say;".repeat(7), 3, 24);
    Check.sayingsFault("say;".repeat(6) + "  say", 3, 26);
    Check.sayingsFault("say;".repeat(6) + "say asks 10;", 3, 24);
    Check.sayingsFault("say;".repeat(6) + "sa", 1, 24);
    Check.sayingsFault("say;".repeat(6) + "says;", 1, 24);
    Check.sayingsFault("say;".repeat(6) + ";", 1, 24);
    Check.due("all as it was", x.count(2), 6);
  }

  // "Q 0 .. 9"
  private static void questions0To9() {
    TwoRumours x = new TwoRumours();
    Check.due("0 and 9", Check.sayings(x, "say asks0answers9;say asks9answers0;say asks009;say answers009;say;"), 5);
    int[] asks = {0, 9, 9, Check.NONE, Check.NONE};
    int[] answers = {9, 0, Check.NONE, 9, Check.NONE};
    for (int s = 0; s < 5; s++) {
      Check.due("asks of " + s, x.saying(s, 0), asks[s]);
      Check.due("answers of " + s, x.saying(s, 1), answers[s]);
    }
    Check.sayingsFault("say asks10;", 2, 8);
    Check.sayingsFault("say asks999;", 2, 8);
    Check.sayingsFault("say asks0009;", 2, 8);
    Check.sayingsFault("say answers10;", 2, 11);
    Check.sayingsFault("say answers999;", 2, 11);
    Check.sayingsFault("say asks1answers10;", 2, 16);
  }

  // "K, L SAYINGS told ahead"; "2 a SAYING that was not told yet (at its first)": here K
  private static void barsToldAhead() {
    Check.sayingsFault("say bars0;", 2, 8);
    Check.sayingsFault("say;say bars1;", 2, 12);
    Check.sayingsFault("say;say bars0;", 0, Check.NONE);
    Check.sayingsFault("say;say bars1;say;", 2, 12);
    Check.sayingsFault("say;say bars0,1;", 2, 14);
    Check.sayingsFault("say;say;say;say;say;say bars0,1,2,3,4;", 0, Check.NONE);
    Check.sayingsFault("say;say;say;say;say;say bars0,1,2,3,5;", 2, 36);
    Check.sayingsFault("say;say;say;say;say;say bars0,1,2,3,1000;", 2, 36);
    TwoRumours x = Check.with("", "say;say;say;say;say;say bars4,0,2,1,3;");
    Check.due("all five", x.saying(5, 2), 31);
  }

  // "4 a K again among those barred (at it)"
  private static void barsEachOnce() {
    Check.sayingsFault("say;say bars0,0;", 4, 14);
    Check.sayingsFault("say;say bars0,00;", 4, 14);
    Check.sayingsFault("say;say;say bars0,1,0;", 4, 20);
    Check.sayingsFault("say;say;say bars0,1,1;", 4, 20);
    Check.sayingsFault("say;say;say bars1,0 , 1", 4, 22);
    Check.sayingsFault("say;say;say bars0;say bars0,1;", 0, Check.NONE);
  }

  // the same of K and L that are joined
  private static void joinsToldAhead() {
    Check.sayingsFault("say joins0 0;", 2, 9);
    Check.sayingsFault("say;say joins0 1;", 2, 15);
    Check.sayingsFault("say;say joins1 0;", 2, 13);
    Check.sayingsFault("say;say;say joins0 1;", 0, Check.NONE);
    Check.sayingsFault("say;say;say joins1 0;", 0, Check.NONE);
    Check.sayingsFault("say;say;say joins0 2;", 2, 19);
    Check.sayingsFault("say;say;say joins2 0;", 2, 17);
    Check.sayingsFault("say;say;say;say;say;say joins4 3;", 0, Check.NONE);
    Check.sayingsFault("say;say;say;say;say;say joins4 5;", 2, 31);
    Check.sayingsFault("say;say;say joins0 1000;", 2, 19);
  }

  // "K and L unlike"; "4 an L that is the K (at it)"
  private static void joinsTwoUnlike() {
    Check.sayingsFault("say;say joins0 0;", 4, 15);
    Check.sayingsFault("say;say joins0 000;", 4, 15);
    Check.sayingsFault("say;say;say joins1   1", 4, 21);
    Check.sayingsFault("say;say;say bars0joins0 1;", 0, Check.NONE);
  }

  // "BARRED are two SAYINGS, if either tells the other among those it bars"
  private static void barredEitherWay() {
    TwoRumours x = Check.with("", "say;say bars0;say bars1,0;say;say bars3;say bars2;");
    int[] barred = {0b110, 0b101, 0b100011, 0b10000, 0b1000, 0b100};
    for (int s = 0; s < 6; s++) {
      for (int r = 0; r < 6; r++) {
        Check.due("barred " + s + " " + r, x.pair(s, r, 0), barred[s] >> r & 1);
      }
    }
    Check.sayings(x, "say;say;");
    Check.due("new sayings bar anew", x.pair(0, 1, 0), 0);
  }

  // "JOIN of two: the first SAYING that joins them (either way round); NONE"
  private static void joinIsTheFirst() {
    TwoRumours x = Check.with("", "say;say;say joins1 0;say joins0 1;say joins2 0;say joins4 1;");
    for (int s = 0; s < 6; s++) {
      for (int r = 0; r < 6; r++) {
        int both = 1 << s | 1 << r;
        int due = both == 0b11 ? 2 : both == 0b101 ? 4 : both == 0b10010 ? 5 : Check.NONE;
        Check.due("join " + s + " " + r, x.pair(s, r, 1), due);
      }
    }
    Check.sayings(x, "say;say;say;");
    Check.due("new sayings join anew", x.pair(0, 1, 1), Check.NONE);
  }

  // "NUMBERS have one to three figures"; "2 a NUMBER of four figures or more"
  private static void numbersOfOneToThreeFigures() {
    TwoRumours x = new TwoRumours();
    Check.due("one, two, three", Check.town(x, "person9;person09;person009;person099;person0;person00;person000;"), 7);
    int[] heed = {9, 9, 9, 99, 0, 0, 0};
    for (int p = 0; p < 7; p++) {
      Check.due("heed of " + p, x.person(p, 0), heed[p]);
    }
    Check.townFault("person0000;", 2, 6);
    Check.townFault("person0009;", 2, 6);
    Check.townFault("person1000;", 2, 6);
    Check.townFault("person4294967297;", 2, 6);
    Check.townFault("person" + "0".repeat(594), 2, 6);
    Check.townFault("person1at0000;", 2, 9);
    Check.townFault("person1;tie0000 0 1;", 2, 11);
    Check.townFault("person1;person1;tie0 1 0001;", 2, 23);
    Check.sayingsFault("say asks0000;", 2, 8);
    Check.sayingsFault("say;say bars0000;", 2, 12);
    Check.sayingsFault("say;say;say joins0 0001;", 2, 19);
  }

  // "words are letters a .. z side by side"; "1 a word that cannot: at its first letter"
  private static void wordsOfLetters() {
    for (String word : new String[] {"p", "perso", "persons", "qerson", "persoo", "ti", "ties", "sie", "say", "silent", "at", "z", "personz", "zperson", "persona", "tiez"}) {
      Check.townFault(word + "1;", 1, 0);
    }
    for (String word : new String[] {"silen", "silents", "tilent", "silenu", "a", "att", "bt", "au", "person", "tie"}) {
      Check.townFault("person1 " + word + "1;", 1, 8);
    }
    for (String word : new String[] {"sa", "says", "tay", "saz", "sayz", "saya", "asks", "person", "tie"}) {
      Check.sayingsFault(word + ";", 1, 0);
    }
    for (String word : new String[] {"ask", "askss", "bsks", "askt", "answer", "answert", "bar", "barss", "bart", "join", "joint", "joinss", "say"}) {
      Check.sayingsFault("say;say " + word + "0;", 1, 8);
    }
    Check.townFault("Person1;", 1, 0);
    Check.townFault("PERSON1;", 1, 0);
    Check.townFault("perSon1;", 1, 0);
    Check.townFault("persoN1;", 1, 0);
    Check.townFault("personX1;", 1, 6);
    Check.townFault("person1 At0;", 1, 8);
    Check.townFault("person1 aT0;", 1, 8);
    Check.townFault("person1 atT0;", 1, 10);
  }

  // the clauses' order: "['silent'] ['at' P]", "['asks' Q] ['answers' Q] ['bars' K {',' K}] ['joins' K L]"
  private static void wordsInTheirOrder() {
    Check.townFault("person1silent at0;", 0, Check.NONE);
    Check.townFault("person1at0silent;", 1, 10);
    Check.townFault("person1silent silent;", 1, 14);
    Check.townFault("person1at0at0;", 1, 10);
    Check.townFault("person silent1;", 1, 7);
    String head = "say;say;say ";
    String[] parts = {"asks1", "answers1", "bars0", "joins0 1"};
    for (int a = 0; a < 4; a++) {
      for (int b = 0; b < 4; b++) {
        int place = head.length() + parts[a].length();
        Check.sayingsFault(head + parts[a] + parts[b] + ";", a < b ? 0 : 1, a < b ? Check.NONE : place);
      }
    }
    Check.sayingsFault(head + "asks1answers1bars0,1joins1 0;", 0, Check.NONE);
  }

  // "blanks (32) may stand anywhere but within words and NUMBERS"
  private static void blanksAnywhereBetween() {
    TwoRumours x = new TwoRumours();
    Check.due("none that is not needed", Check.town(x, "person7silent at3;person8at0;person9;tie0 2 4;"), 3);
    String tight = town(x);
    Check.due("many", Check.town(x, "   person   7   silent   at   3   ;   person 8 at 0 ; person 9 ; tie   0   2   4   ;   "), 3);
    Check.same("the same town", town(x), tight);
    Check.due("no blank", Check.sayings(x, "say;say;say asks1answers2bars0,1joins1 0;"), 3);
    String said = sayings(x);
    Check.due("blanks", Check.sayings(x, "  say  ;  say  ;  say  asks  1  answers  2  bars  0  ,  1  joins  1  0  ;  "), 3);
    Check.same("the same sayings", sayings(x), said);
  }

  private static String town(TwoRumours x) {
    StringBuilder s = new StringBuilder();
    for (int p = 0; p < 3; p++) {
      for (int what = 0; what < 5; what++) {
        s.append(x.person(p, what)).append(' ');
      }
      s.append(x.tie(p, 2)).append(' ');
    }
    return s.toString();
  }

  private static String sayings(TwoRumours x) {
    StringBuilder s = new StringBuilder();
    for (int k = 0; k < 3; k++) {
      s.append(x.saying(k, 0)).append(' ').append(x.saying(k, 1)).append(' ').append(x.saying(k, 2)).append(' ');
      s.append(x.pair(k, 1, 0)).append(' ').append(x.pair(k, 1, 1)).append(' ');
    }
    return s.toString();
  }

  private static void blanksNotWithin() {
    Check.townFault("per son1;", 1, 0);
    Check.townFault("person1 0;", 1, 8);
    Check.townFault("person1silen t;", 1, 7);
    Check.townFault("person1 a t0;", 1, 8);
    Check.townFault("person1;person1;t ie0 1 1;", 1, 16);
    Check.townFault("person1;person1;tie0 1 1 1;", 1, 25);
    Check.sayingsFault("s ay;", 1, 0);
    Check.sayingsFault("say asks1 0;", 1, 10);
    Check.sayingsFault("say an swers1;", 1, 4);
  }

  // "two words, two NUMBERS side by side need one"
  private static void blanksNeededBetween() {
    Check.townFault("person1silentat3;", 1, 7);
    Check.sayingsFault("sayasks1;", 1, 0);
    Check.sayingsFault("saybars0;", 1, 0);
    Check.townFault("person1;person1;tie01 1;", 4, 22);
    Check.townFault("person1;person1;tie0 11;", 2, 21);
    Check.sayingsFault("say;say;say joins01;", 1, 19);
    Check.sayingsFault("say;say;say joins10;", 2, 17);
  }

  // "'bars' K {',' K}"
  private static void commas() {
    Check.sayingsFault("say;say;say bars0,1;", 0, Check.NONE);
    Check.sayingsFault("say;say;say bars0 , 1;", 0, Check.NONE);
    Check.sayingsFault("say;say;say bars,0;", 1, 16);
    Check.sayingsFault("say;say;say bars0,;", 1, 18);
    Check.sayingsFault("say;say;say bars0,,1;", 1, 18);
    Check.sayingsFault("say;say;say bars0 1;", 1, 18);
    Check.sayingsFault("say;say;say bars0,joins0 1;", 1, 18);
    Check.sayingsFault("say;say;say joins0,1;", 1, 18);
    Check.sayingsFault("say;say;say bars0joins0 1,;", 1, 25);
    Check.sayingsFault("say,", 1, 3);
    Check.townFault("person1,", 1, 7);
    Check.townFault("person1;,", 1, 8);
  }

  // "(the end at the text's length)": a text that ends too early, cut at each of its bytes
  private static void endsAtTheTextsLength() {
    String town = "person7silent at3;";
    for (int end = 1; end < town.length(); end++) {
      Check.townFault(town.substring(0, end), 1, placeOfCut(town, end));
      Check.townFault(town.substring(0, end) + "   ", 1, blanksBehind(town, end));
    }
    String tie = "person1;person1;tie 0 1 9;";
    for (int end = 17; end < tie.length(); end++) {
      Check.townFault(tie.substring(0, end), 1, placeOfCut(tie, end));
    }
    String said = "say;say;say asks 1 answers 2 bars 0 , 1 joins 1 0 ;";
    for (int end = 9; end < said.length(); end++) {
      Check.sayingsFault(said.substring(0, end), 1, placeOfCut(said, end));
    }
  }

  /** At the first letter of a word that is cut, else at the end. */
  private static int placeOfCut(String text, int end) {
    Matcher words = Pattern.compile("[a-z]+").matcher(text);
    while (words.find()) {
      if (words.start() < end && end < words.end()) {
        return words.start();
      }
    }
    return end;
  }

  private static int blanksBehind(String text, int end) {
    int place = placeOfCut(text, end);
    return place == end ? end + 3 : place;
  }

  // "1 it cannot stand there"
  private static void signsThatCannotStand() {
    for (int sign = 0; sign < 256; sign++) {
      if (sign == ' ') {
        continue;
      }
      String one = String.valueOf((char) sign);
      Check.townFault(one, 1, 0);
      Check.sayingsFault(one, 1, 0);
      if (sign != ';' && (sign < '0' || sign > '9')) {
        Check.townFault("person1" + one, 1, 7);
        Check.townFault("person1;person1;tie0 1 1" + one, 1, 24);
      }
      if (sign != ';' && (sign < 'a' || sign > 'z')) {
        Check.sayingsFault("say" + one, 1, 3);
      }
      if (sign < '0' || sign > '9') {
        Check.townFault("person " + one, 1, 7);
        Check.townFault("person1at " + one, 1, 10);
        Check.sayingsFault("say asks " + one, 1, 9);
      }
    }
  }

  // "FAULTS, at the first byte that has one, of these the least"
  private static void firstByteThenLeastNumber() {
    Check.townFault("person 101 at 9;x", 2, 7);
    Check.townFault("person 5 at 9 silent;", 2, 12);
    Check.townFault("person1;tie0 0 0;", 4, 13);
    Check.townFault("person1;tie0 0 1", 4, 13);
    Check.townFault("person1;tie5 5 1;", 2, 11);
    Check.townFault("person1;tie0 0000 1;", 2, 13);
    Check.townFault("person1 1111;", 1, 8);
    Check.townFault("1111;", 1, 0);
    Check.townFault("person1;1111", 1, 8);
    Check.townFault(MOST_PERSONS + "1111", 1, 192);
    Check.townFault("person1;person1;tie0 1 1;tie0 1 0;", 4, 30);
    Check.sayingsFault("say;say bars0,0000;", 2, 14);
    Check.sayingsFault("say;say bars0,0,9;", 4, 14);
    Check.sayingsFault("say;say joins0 0000;", 2, 15);
    Check.sayingsFault("say;say joins9 9;", 2, 13);
    Check.sayingsFault("say 1111;", 1, 4);
    Check.sayingsFault("say;say joins0 0 1111;", 4, 15);
  }

  // "An empty text (or one of blanks alone) has no FAULT: no PERSONS; no SAYINGS"
  private static void emptyTexts() {
    for (String empty : new String[] {"", " ", " ".repeat(300)}) {
      TwoRumours x = Check.with("person1;person1;tie0 1 1;", "say;say;");
      Check.due("town of '" + empty + "'", Check.town(x, empty), 0);
      Check.due("no fault", x.fault(), Check.NONE);
      Check.due("no persons", x.count(0), 0);
      Check.due("no ties", x.count(1), 0);
      Check.due("none is known", x.person(0, 0), Check.UNKNOWN);
      Check.due("sayings stay", x.count(2), 2);
      Check.due("sayings of '" + empty + "'", Check.sayings(x, empty), 0);
      Check.due("no fault", x.fault(), Check.NONE);
      Check.due("no sayings", x.count(2), 0);
      Check.due("none is known", x.saying(0, 0), Check.UNKNOWN);
    }
  }

  // "the FAULT of the latest town() or sayings() that was not NOT; NONE"
  private static void faultOfTheLatest() {
    TwoRumours x = new TwoRumours();
    Check.due("nothing was read", x.fault(), Check.NONE);
    Check.feed(x, "person1;x");
    Check.due("fed, not read", x.fault(), Check.NONE);
    x.town();
    Check.due("of town", x.fault(), 8);
    Check.feed(x, "say;sa");
    Check.due("still of town", x.fault(), 8);
    x.sayings();
    Check.due("of sayings", x.fault(), 4);
    Check.feed(x, " ".repeat(301));
    x.sayings();
    Check.due("not of one that was NOT", x.fault(), 4);
    x.town();
    Check.due("none any more", x.fault(), Check.NONE);
    Check.town(x, "x");
    Check.due("at 0", x.fault(), 0);
    x.sayings();
    Check.due("none by sayings", x.fault(), Check.NONE);
  }

  private static TwoRumours lively() {
    TwoRumours x = Check.with("person0at0;person0silent;person100;tie0 1 1;tie0 2 1;", "say;say bars0;");
    x.seed(Check.seedWithin(new int[] {2, 2, 2}, new int[] {0, 0, 0}, new int[] {0, 0, 0}));
    x.rule(0, 7);
    x.rule(1, 77);
    x.begin(0, 0);
    x.begin(1, 1);
    x.go(3);
    x.ask(1, 0, 3);
    x.keep(0);
    x.keep(1);
    x.road(0, 1, 4);
    x.report(0, 9);
    Check.due("NOs so far", x.count(5), 3);
    return x;
  }

  // "THE TEXT becomes THE TOWN (nobody HOLDS anything ... stay)"; with a FAULT "all else is as it was"
  private static void townLeavesAndTakes() {
    TwoRumours x = lively();
    int seed = Check.seedOf(x);
    Check.due("a fault", Check.town(x, "person5;person5;person5;person5;tie0 1 9;tie0 1 9;"), -14);
    int[] due = {3, 2, 2, 0, 3, 3, 1, 2};
    for (int what = 0; what < 8; what++) {
      Check.due("all as it was: count " + what, x.count(what), due[what]);
    }
    Check.due("heed", x.person(0, 0), 0);
    Check.due("tie", x.tie(0, 1), 1);
    Check.due("held", x.holds(0, 0, 0), 1);
    Check.due("told by", x.holds(1, 0, 4), 1);
    Check.due("image 0", x.goBack(0), 1);
    Check.due("image 1", x.goBack(1), 1);
    Check.due("no fault", Check.town(x, "person5;person5;"), 2);
    int[] then = {2, 0, 2, 0, 0, 0, 0, 0};
    for (int what = 0; what < 8; what++) {
      Check.due("a new town: count " + what, x.count(what), then[what]);
    }
    Check.due("nobody holds 0", x.holders(0), 0);
    Check.due("nobody holds 1", x.holders(1), 0);
    Check.due("nobody was told", x.holds(1, 0, 4), 0);
    Check.due("nobody was asked", x.end(1), Check.NOT);
    Check.due("image 0 is gone", x.goBack(0), Check.NOT);
    Check.due("image 1 is gone", x.goBack(1), Check.NOT);
    Check.due("the sayings stay", x.pair(0, 1, 0), 1);
    afterBoth(x, seed);
  }

  private static void afterBoth(TwoRumours x, int seed) {
    Check.due("rule 0 stays", x.rule(0, 3), 7);
    Check.due("rule 1 stays", x.rule(1, 20), 77);
    Check.due("the seed stays", Check.seedOf(x), seed);
    Check.due("the road stays", x.road(1, 0, 4), 4);
    Check.due("the report stays", x.source(10, 1), 1009);
    Check.due("the reports", x.silence(), 1);
  }

  // the same of SAYINGS; THE TOWN and INTERVIEWS stay
  private static void sayingsLeaveAndTake() {
    TwoRumours x = lively();
    int seed = Check.seedOf(x);
    Check.due("a fault", Check.sayings(x, "say;say asks1bars0,0;"), -14);
    int[] due = {3, 2, 2, 0, 3, 3, 1, 2};
    for (int what = 0; what < 8; what++) {
      Check.due("all as it was: count " + what, x.count(what), due[what]);
    }
    Check.due("barred", x.pair(0, 1, 0), 1);
    Check.due("asks", x.saying(1, 0), Check.NONE);
    Check.due("held", x.holds(0, 0, 0), 1);
    Check.due("image 0", x.goBack(0), 1);
    Check.due("image 1", x.goBack(1), 1);
    Check.due("no fault", Check.sayings(x, "say;say;say;"), 3);
    int[] then = {3, 2, 3, 0, 0, 0, 1, 0};
    for (int what = 0; what < 8; what++) {
      Check.due("new sayings: count " + what, x.count(what), then[what]);
    }
    Check.due("nobody holds 0", x.holders(0), 0);
    Check.due("nobody holds 1", x.holders(1), 0);
    Check.due("nobody was told", x.holds(1, 0, 4), 0);
    Check.due("who was asked stays so", x.end(1), 0);
    Check.due("image 0 is gone", x.goBack(0), Check.NOT);
    Check.due("image 1 is gone", x.goBack(1), Check.NOT);
    Check.due("the town stays", x.tie(0, 1), 1);
    afterBoth(x, seed);
  }

  // "count ... OUTSIDE"
  private static void counts() {
    TwoRumours x = lively();
    Check.feed(x, "four");
    int[] due = {3, 2, 2, 4, 3, 3, 1, 2};
    for (int what = 0; what < 8; what++) {
      Check.due("count " + what, x.count(what), due[what]);
    }
    for (int what : new int[] {LOW, -1, 8, HIGH}) {
      Check.due("count " + what, x.count(what), Check.OUTSIDE);
    }
  }

  // "person ... UNKNOWN, OUTSIDE"
  private static void personsAsked() {
    TwoRumours x = Check.with("person1;".repeat(23) + "person100silent at3;tie23 0 9;tie22 23 9;", "");
    int[] last = {100, 1, 3, 2, 18};
    int[] another = {1, 0, Check.NONE, 0, 0};
    for (int what = 0; what < 5; what++) {
      Check.due("of the last " + what, x.person(23, what), last[what]);
      Check.due("of another " + what, x.person(1, what), another[what]);
    }
    for (int p : new int[] {LOW, -1, 24, HIGH}) {
      Check.due("person " + p, x.person(p, 0), Check.UNKNOWN);
      Check.due("UNKNOWN ahead of OUTSIDE", x.person(p, 5), Check.UNKNOWN);
    }
    for (int what : new int[] {LOW, -1, 5, HIGH}) {
      Check.due("what " + what, x.person(23, what), Check.OUTSIDE);
    }
  }

  // "tie ... 0: there is none. UNKNOWN"
  private static void tiesAsked() {
    TwoRumours x = Check.with(MOST_PERSONS + "tie23 0 9;", "");
    Check.due("tie", x.tie(0, 23), 9);
    Check.due("the other way", x.tie(23, 0), 9);
    Check.due("none", x.tie(22, 0), 0);
    Check.due("of one with itself", x.tie(23, 23), 0);
    for (int p : new int[] {LOW, -1, 24, HIGH}) {
      Check.due("tie " + p + " 0", x.tie(p, 0), Check.UNKNOWN);
      Check.due("tie 0 " + p, x.tie(0, p), Check.UNKNOWN);
      Check.due("tie of both", x.tie(p, p), Check.UNKNOWN);
    }
  }

  // "saying ... UNKNOWN, OUTSIDE"
  private static void sayingsAsked() {
    TwoRumours x = Check.with("", "say;say;say;say;say;say asks9answers9bars0,4;");
    int[] last = {9, 9, 17};
    int[] first = {Check.NONE, Check.NONE, 0};
    for (int what = 0; what < 3; what++) {
      Check.due("of the last " + what, x.saying(5, what), last[what]);
      Check.due("of the first " + what, x.saying(0, what), first[what]);
    }
    for (int s : new int[] {LOW, -1, 6, HIGH}) {
      Check.due("saying " + s, x.saying(s, 0), Check.UNKNOWN);
      Check.due("UNKNOWN ahead of OUTSIDE", x.saying(s, 3), Check.UNKNOWN);
    }
    for (int what : new int[] {LOW, -1, 3, HIGH}) {
      Check.due("what " + what, x.saying(5, what), Check.OUTSIDE);
    }
  }

  // "pair ... UNKNOWN, OUTSIDE"
  private static void pairsAsked() {
    TwoRumours x = Check.with("", "say;say;say;say;say;say bars0joins0 4;");
    Check.due("barred with the last", x.pair(0, 5, 0), 1);
    Check.due("join of the fourth", x.pair(4, 0, 1), 5);
    for (int s : new int[] {LOW, -1, 6, HIGH}) {
      Check.due("pair " + s + " 0", x.pair(s, 0, 0), Check.UNKNOWN);
      Check.due("pair 0 " + s, x.pair(0, s, 1), Check.UNKNOWN);
      Check.due("UNKNOWN ahead of OUTSIDE", x.pair(5, s, 2), Check.UNKNOWN);
    }
    for (int what : new int[] {LOW, -1, 2, HIGH}) {
      Check.due("what " + what, x.pair(0, 5, what), Check.OUTSIDE);
    }
  }

  // "(1 .. 20; 3 at first)", "(0 .. 100; 20)"; "rule ... OUTSIDE"
  private static void rulesWithinBounds() {
    TwoRumours x = new TwoRumours();
    Check.due("3 at first", x.rule(0, 1), 3);
    Check.due("1 is allowed", x.rule(0, 20), 1);
    for (int v : new int[] {LOW, -1, 0, 21, 100, HIGH}) {
      Check.due("'I know' " + v, x.rule(0, v), Check.OUTSIDE);
    }
    Check.due("20 is allowed, refused ones left it", x.rule(0, 5), 20);
    Check.due("20 at first", x.rule(1, 0), 20);
    Check.due("0 is allowed", x.rule(1, 100), 0);
    for (int v : new int[] {LOW, -1, 101, HIGH}) {
      Check.due("more heed " + v, x.rule(1, v), Check.OUTSIDE);
    }
    Check.due("100 is allowed, refused ones left it", x.rule(1, 5), 100);
    for (int what : new int[] {LOW, -1, 2, HIGH}) {
      Check.due("rule " + what, x.rule(what, 5), Check.OUTSIDE);
    }
    Check.due("rule 0", x.rule(0, 3), 5);
    Check.due("rule 1", x.rule(1, 20), 5);
  }
}
