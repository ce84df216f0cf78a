/** Promises 33 to 35, and the sentences about texts under 'Terms', that name a boundary case. */
public final class EdgesOfTextsTest {
  private static final Due DUE = new Due();
  private static final String[] KINDS =
      {"house", "strict", "open", "inn", "guard", "sick", "quarrel"};

  public static void main(String[] args) {
    Sentences.run(EdgesOfTextsTest.class, DUE);
  }

  /** A text on two houses: how many items. */
  private static void good(String text, int items) {
    DUE.is("'" + text + "'", Due.read(Due.row(2, 0), text), items);
  }

  /** A text on so many houses with a fault: at the place of a mark, which isn't part of it. */
  private static void bad(int houses, String marked) {
    int place = marked.indexOf('^');
    String text = marked.replace("^", "");
    DUE.is("'" + marked + "' on " + houses, Due.read(Due.row(houses, 0), text), -1 - place);
  }

  private static void bad(String marked) {
    bad(2, marked);
  }

  private static void ofHouse(StairRow x, int house, int... due) {
    for (int what = 0; what < due.length; what++) {
      DUE.is("of(" + house + ", " + what + ")", x.of(house, what), due[what]);
    }
  }

  private static String repeated(String one, int times) {
    StringBuilder all = new StringBuilder();
    for (int k = 0; k < times; k++) {
      all.append(one);
    }
    return all.toString();
  }

  // ---- 33: feed

  @Says("33: (n 1 to 4) .. BEYOND: n.")
  private static void feedOneToFour() {
    DUE.range("n", 1, 4, n -> new StairRow().feed(-1, n));
    for (int n = 1; n <= 4; n++) {
      StairRow x = new StairRow();
      DUE.is("feed(-1, " + n + ")", x.feed(-1, n), n);
      DUE.is("count(4)", x.count(4), n);
    }
  }

  @Says("33: the n lowest bytes of a number behind it, the highest of these first")
  private static void feedHighestFirst() {
    StairRow x = new StairRow();
    x.feed('d' << 24 | 'o' << 16 | 'o' << 8 | 'r', 4);
    x.feed(0x7f << 24 | '1' << 16 | ' ' << 8 | ' ', 3);
    x.feed(0x7f7f << 16 | ';' << 8 | 'b', 2);
    x.feed(0x7f7f7f << 8 | 'e', 1);
    x.feed(0x80000000 | 'd', 1);
    x.feed('1' << 24 | 'i' << 16 | 'n' << 8 | '0', 4);
    DUE.is("count(4)", x.count(4), 4 + 3 + 2 + 1 + 1 + 4);
    x.house(0);
    x.house(0);
    DUE.is("door1  ;bed1in0", x.text(), 2);
    DUE.is("door 1", x.door(1, true), 1);
    DUE.is("bed of 1", x.of(1, 7), 0);
  }

  @Says("33: the n lowest bytes (of a number below 0; bytes 128 to 255)")
  private static void feedBytesAreWithoutSign() {
    for (int one : new int[] {-1, 128, 255, 256 + 200, Integer.MIN_VALUE + 255}) {
      StairRow x = new StairRow();
      DUE.is("feed", x.feed(one, 1), 1);
      DUE.is("text", x.text(), -1);
    }
    StairRow x = new StairRow();
    DUE.is("four high ones", x.feed(-1, 4), 4);
    DUE.is("text", x.text(), -1);
    DUE.is("a blank, then high ones", x.feed(' ' << 24 | 0xffffff, 4), 4);
    DUE.is("text", x.text(), -2);
  }

  @Says("33: how many it has. FULL. (THE TAPE: bytes, at most 120)")
  private static void feedUpToFull() {
    for (int n = 1; n <= 4; n++) {
      StairRow x = new StairRow();
      int has = 0;
      while (has + n <= 120) {
        has += n;
        DUE.is("feed(0, " + n + ")", x.feed(0, n), has);
      }
      DUE.is("full", x.feed(0, n), Due.FULL);
      DUE.is("nothing came", x.count(4), 120);
    }
  }

  @Says("33: FULL. (not by a part)")
  private static void feedAllOrNothing() {
    for (int has = 117; has <= 120; has++) {
      for (int n = 1; n <= 4; n++) {
        StairRow x = new StairRow();
        Due.type(x, repeated(" ", has));
        DUE.is("feed " + n + " to " + has, x.feed(0, n), has + n > 120 ? Due.FULL : has + n);
        DUE.is("has", x.count(4), has + n > 120 ? has : has + n);
      }
    }
  }

  @Says("33: BEYOND: n. FULL. (in this order)")
  private static void feedBeyondAheadOfFull() {
    StairRow x = new StairRow();
    Due.type(x, repeated(" ", 120));
    DUE.is("n 0", x.feed(0, 0), Due.BEYOND);
    DUE.is("n 5", x.feed(0, 5), Due.BEYOND);
    DUE.is("n 1", x.feed(0, 1), Due.FULL);
    DUE.is("n 4", x.feed(0, 4), Due.FULL);
  }

  // ---- 34: wipe

  @Says("34: THE TAPE is empty: how many it had. (none, one, all)")
  private static void wipeNoneOneAll() {
    StairRow x = new StairRow();
    for (int had : new int[] {0, 1, 119, 120}) {
      Due.type(x, repeated("x", had));
      DUE.is("wipe() of " + had, x.wipe(), had);
      DUE.is("count(4)", x.count(4), 0);
      DUE.is("wipe() again", x.wipe(), 0);
    }
    DUE.is("place for four again", x.feed(0, 4), 4);
  }

  // ---- 35: text

  @Says("35: THE TAPE is a TEXT, and empty then")
  private static void textEmptiesTheTape() {
    StairRow x = new StairRow();
    DUE.is("a text", Due.read(x, "inn"), 1);
    DUE.is("empty", x.count(4), 0);
    DUE.is("not read twice", x.text(), -1);
    DUE.is("one house", x.count(0), 1);
  }

  @Says("35: all that it tells is so, item by item: how many ITEMS.")
  private static void textItemByItem() {
    StairRow x = new StairRow();
    DUE.is("beds over one another", Due.read(x, "inn;inn;bed 0 in 1;bed 1 in 0;bed 0 in 0"), 5);
    DUE.is("the last counts", x.beds(0), 3);
    DUE.is("doors and leaves twice", Due.read(x, "door 3;door 3;leave 0 1;leave 0 1;foes 0 1"), 5);
    DUE.is("LEAVE", x.of(0, 2), 2);
    DUE.is("FOES", x.of(0, 5), 2);
  }

  @Says("35: THE TAPE is empty (what stood on it before is not read on)")
  private static void textEndsWithTheTape() {
    StairRow x = new StairRow();
    Due.type(x, "inn;innxx;door 133 3 3 3");
    x.wipe();
    DUE.is("a word", Due.read(x, "inn;inn"), 2);
    DUE.is("a number", Due.read(x, "inn;inn;x;door 1"), -9);
    DUE.is("a number", Due.read(x, "inn; ;door 1"), -6);
    DUE.is("a number", Due.read(x, "inn;inn ; door 1"), 3);
    DUE.is("door 1", x.door(1, true), 1);
    DUE.is("none else", x.count(1), 1);
    DUE.is("four houses", x.count(0), 4);
  }

  @Says("35: how many ITEMS (the most that there is place for)")
  private static void textOfAFullTape() {
    String most = "inn;inn;inn;inn;inn;inn;inn;inn" + repeated(";door 1", 12) + ";door";
    StairRow x = new StairRow();
    Due.type(x, most);
    DUE.is("its length", x.count(4), 120);
    DUE.is("ends too early", x.text(), -121);
    Due.type(x, most.substring(0, 115) + "     ");
    DUE.is("its length", x.count(4), 120);
    DUE.is("items", x.text(), 20);
    Due.type(x, repeated("door1;", 19) + "door 1");
    DUE.is("items of six", x.text(), 20);
    Due.type(x, "leave7" + repeated(" 7", 57));
    DUE.is("most names", x.text(), 1);
    DUE.is("LEAVE of 7", x.of(7, 2), 128);
    Due.type(x, repeated(";", 120));
    DUE.is("signs alone", x.text(), -1);
    Due.type(x, repeated(" ", 120));
    DUE.is("blanks alone", x.text(), -121);
    Due.type(x, repeated("1 ", 60));
    DUE.is("numbers alone", x.text(), -1);
    Due.type(x, "door " + repeated("0", 114) + "9");
    DUE.is("a number with zeros", x.text(), 1);
    DUE.is("door 9", x.door(9, true), 1);
    Due.type(x, "door " + repeated("9", 115));
    DUE.is("a number of nines", x.text(), -6);
    Due.type(x, repeated("z", 120));
    DUE.is("a long word", x.text(), -1);
  }

  @Says("35: With a FAULT: -1 less the FAULT (nothing changes but that THE TAPE is empty; no finding).")
  private static void textWithAFaultChangesNothing() {
    StairRow x = Due.row(2, 1);
    x.seed(5);
    x.hold(4, 1);
    String text = "sick right from 1 to 2 sleepers 3;door 1;leave 0 1;foes 1 0;bed 0 in 2;";
    DUE.is("ends too early", Due.read(x, text), -1 - text.length());
    ofHouse(x, 0, 1, -1, 0, 6, 22, 0, 2, 0);
    ofHouse(x, 1, 1, -1, 0, 6, 22, 0, 2, 1);
    int[] counts = {2, 0, 0, 4, 0, 5, 1};
    for (int what = 0; what < 7; what++) {
      DUE.is("count(" + what + ")", x.count(what), counts[what]);
    }
    DUE.is("no finding", x.status(-1), 0);
  }

  @Says("35: -1 less the FAULT .. no finding (whatever number)")
  private static void textFaultIsNoFinding() {
    StairRow x = new StairRow();
    for (int place = 0; place < 120; place++) {
      DUE.is("fault at " + place, Due.read(x, repeated(" ", place) + "?"), -1 - place);
    }
    for (int which = -1; which < 7; which++) {
      DUE.is("status(" + which + ")", x.status(which), 0);
    }
  }

  // ---- tokens

  @Says("Terms: TOKENS, each as long as can be")
  private static void tokensAsLongAsCanBe() {
    good("inn;open", 2);
    bad("^innopen");
    bad("^innright0");
    bad("inn ^leftt");
    bad("inn ^rightfrom 1 to 2");
    good("inn right from1to2sleepers3", 1);
    good("leave1 2", 1);
    bad("leave 1^;2");
    bad("leave ^12");
    good("bed1in0", 1);
    bad("bed1 ^inn0");
    good("door 12", 1);
    bad("door 1 ^2");
  }

  @Says("Terms: WORDS (letters a to z)")
  private static void wordsOfSmallLetters() {
    for (char sign : new char[] {'`', '{', 'A', 'Z', '@', '[', '_', '-', (char) 0xe4}) {
      bad("^" + sign);
      bad("inn^" + sign);
      bad("inn ^" + sign);
      bad("^i" + sign);
    }
    bad("^a");
    bad("^z");
    bad("inn ^z");
    for (String word : KINDS) {
      bad("^" + word.substring(0, word.length() - 1));
      bad("^" + word + "s");
      bad("^x" + word);
      bad("^x" + word.substring(1));
      bad("^" + word.substring(0, word.length() - 1) + "x");
      bad("^" + Character.toUpperCase(word.charAt(0)) + word.substring(1));
    }
  }

  @Says("Terms: NUMBERS (digits, 999 at most)")
  private static void numbersOfDigits() {
    bad("door ^/");
    bad("door ^:");
    bad("door 1^/");
    bad("door 1^:");
    bad("door ^-1");
    bad("door ^+1");
    bad("door 1^.");
    bad("door ^999");
    bad("door ^1000");
    bad("door ^1001");
    bad("door ^4294967296");
    bad("door ^4294967297");
    bad("door ^18446744073709551617");
    bad("leave 0 1 ^256");
    bad("leave ^65536 1");
    good("door 000", 1);
    good("door 0013", 1);
    good("door 00000000000000000000013", 1);
    bad("door ^00000000000000000000014");
  }

  @Says("Terms: SIGN ;")
  private static void theOneSign() {
    for (char sign : new char[] {':', ',', '.', '<', '|', '\n', '\t', 0, 127, 255, 128 + ';'}) {
      bad("inn^" + sign + "inn");
      bad("^" + sign);
    }
    good("inn;inn", 2);
  }

  @Says("Terms: blanks may stand between.")
  private static void blanksBetween() {
    good("inn ; inn", 2);
    good("inn   right   from   1   to   2   sleepers   3   ;   door   1", 2);
    good("   inn", 1);
    good("inn   ", 1);
    good(" door  1 ", 1);
    bad("inn^\tright");
    bad("inn^\rright");
    bad("inn^\u00a0right");
    bad("^i nn");
    bad("door 1 ^3");
  }

  // ---- items

  @Says("Terms: TEXT: ITEM { ; ITEM }.")
  private static void textsOfItems() {
    bad("^");
    bad("^;");
    bad("^;inn");
    bad("inn;^");
    bad("inn; ^");
    bad("inn;^;");
    bad("inn;^;inn");
    bad("inn ^inn");
    bad("door 1 ^door 1");
    bad("leave 0 1 ^leave 0 1");
    bad("bed 0 in 0 ^bed 0 in 0");
    good("inn;door 1;leave 0 1;foes 0 1;bed 0 in 0;inn", 6);
  }

  @Says("Terms: ITEM: house, strict, open, sick, inn, guard or quarrel .. a new HOUSE")
  private static void itemsOfEachKind() {
    for (int kind = 0; kind < 7; kind++) {
      StairRow x = new StairRow();
      DUE.is(KINDS[kind], Due.read(x, KINDS[kind]), 1);
      ofHouse(x, 0, kind, -1, 0, 6, 22, 0, 2, 0);
      DUE.is("one house", x.count(0), 1);
    }
  }

  @Says("Terms: perhaps left or right (STAIR: h - 1, not with h 0; h + 1, not with h 7 ..)")
  private static void stairsOfEachHouse() {
    for (int h = 0; h < 8; h++) {
      StairRow x = Due.row(h, 0);
      DUE.is("left of " + h, Due.read(x, "inn left"), h == 0 ? -5 : 1);
      DUE.is("STAIR", x.of(h, 1), h == 0 ? Due.BEYOND : h - 1);
      StairRow y = Due.row(h, 0);
      DUE.is("right of " + h, Due.read(y, "inn right"), h == 7 ? -5 : 1);
      DUE.is("STAIR", y.of(h, 1), h == 7 ? Due.BEYOND : h + 1);
    }
    bad(0, "inn ^left");
    bad(0, "inn;inn left;inn right;inn left from 1 to 2;^");
    bad(7, "inn ^right");
    bad("inn left ^right");
    bad("inn right ^left");
    bad("inn left ^left");
  }

  @Says("Terms: also if there is none yet")
  private static void stairsToNoneYet() {
    StairRow x = new StairRow();
    DUE.is("right of the last", Due.read(x, "inn right"), 1);
    DUE.is("STAIR", x.of(0, 1), 1);
    DUE.is("it counts", x.count(2), 1);
    DUE.is("joined to nothing", x.joined(0), 0);
    DUE.is("right of the seventh", Due.read(Due.row(6, 0), "inn right"), 1);
  }

  @Says("Terms: perhaps from, a NUMBER (0 to 23), to, a NUMBER (0 to 23)")
  private static void hoursOfItems() {
    StairRow x = new StairRow();
    DUE.is("first and last", Due.read(x, "inn from 0 to 23;inn from 23 to 0;inn from 0 to 0"), 3);
    ofHouse(x, 0, 3, -1, 0, 0, 23);
    ofHouse(x, 1, 3, -1, 0, 23, 0);
    ofHouse(x, 2, 3, -1, 0, 0, 0);
    bad("inn from ^24 to 0");
    bad("inn from 0 to ^24");
    bad("inn from ^99 to 99");
    bad("inn from^");
    bad("inn from ^;");
    bad("inn from ^to 1");
    bad("inn from 1^");
    bad("inn from 1 ^2");
    bad("inn from 1 ^;");
    bad("inn from 1 ^sleepers 2");
    bad("inn from 1 to^");
    bad("inn from 1 to ^;");
    bad("inn from 1 to ^to");
    bad("inn from 1 to 2 ^3");
    bad("inn from 1 to 2 ^from 1 to 2");
    bad("inn from 1 to 2 ^left");
    bad("inn ^to 2");
  }

  @Says("Terms: perhaps sleepers and a NUMBER (0 to 9): a new HOUSE")
  private static void sleepersOfItems() {
    StairRow x = new StairRow();
    DUE.is("first and last", Due.read(x, "inn sleepers 0;inn sleepers 9;inn sleepers 09"), 3);
    DUE.is("of 0", x.of(0, 6), 0);
    DUE.is("of 1", x.of(1, 6), 9);
    DUE.is("of 2", x.of(2, 6), 9);
    bad("inn sleepers ^10");
    bad("inn sleepers^");
    bad("inn sleepers ^;");
    bad("inn sleepers ^left");
    bad("inn sleepers 1 ^2");
    bad("inn sleepers 1 ^sleepers 1");
    bad("inn sleepers 1 ^from 1 to 2");
    bad("inn sleepers 1 ^left");
    bad("inn ^9");
  }

  @Says("Terms: leave, a NUMBER (a HOUSE there is by then) .. foes likewise")
  private static void namesOfHousesThereAreByThen() {
    for (String word : new String[] {"leave", "foes"}) {
      bad(0, word + " ^0 0");
      bad(1, word + " ^1 0");
      bad(8, word + " ^8 0");
      bad(word + "^");
      bad(word + " ^;");
      bad(word + " ^inn");
      bad(word + " ^" + word);
      bad(0, word + " ^0 1;inn");
      bad(0, "inn;" + word + " ^1 1;inn");
      for (int n = 1; n <= 8; n++) {
        StairRow x = Due.row(n, 0);
        DUE.is("the last of " + n, Due.read(x, word + " " + (n - 1) + " 7"), 1);
        DUE.is("its set", x.of(n - 1, word.equals("leave") ? 2 : 5), 128);
      }
      StairRow x = new StairRow();
      DUE.is("by then", Due.read(x, "inn;" + word + " 0 0;inn;" + word + " 1 1"), 4);
      DUE.is("of 0", x.of(0, word.equals("leave") ? 2 : 5), 1);
      DUE.is("of 1", x.of(1, word.equals("leave") ? 2 : 5), 2);
    }
  }

  @Says("Terms: 1 or more NUMBERS (0 to 7: FAMILIES, added) .. foes likewise")
  private static void namesOfFamilies() {
    for (String word : new String[] {"leave", "foes"}) {
      int what = word.equals("leave") ? 2 : 5;
      bad(word + " 1^");
      bad(word + " 1 ^;");
      bad(word + " 1 ^inn");
      bad(word + " 1 ^8");
      bad(word + " 1 0 ^8");
      bad(word + " 1 0 ^8 1");
      bad(word + " 1 0 1 2 3 4 5 6 7 ^8");
      bad(word + " 1 0 ^in");
      StairRow x = Due.row(1, 0);
      DUE.is("one", Due.read(x, word + " 0 7"), 1);
      DUE.is("its set", x.of(0, what), 128);
      DUE.is("added, twice the same", Due.read(x, word + " 0 0 0"), 1);
      DUE.is("its set", x.of(0, what), 129);
      DUE.is("all", Due.read(x, word + " 0 7 6 5 4 3 2 1 0"), 1);
      DUE.is("its set", x.of(0, what), 255);
      DUE.is("the other set", x.of(0, 7 - what), 0);
    }
  }

  @Says("Terms: door, a NUMBER (0 to 13): it is open")
  private static void doorsOfItems() {
    for (int d = 0; d < 14; d++) {
      StairRow x = new StairRow();
      DUE.is("door " + d, Due.read(x, "door " + d), 1);
      DUE.is("open", x.door(d, true), 1);
      DUE.is("no other one", x.count(1), 1);
      DUE.is("once more", Due.read(x, "door " + d), 1);
      DUE.is("still open", x.count(1), 1);
    }
    bad("door ^14");
    bad("door^");
    bad("door ^;");
    bad("door ^door");
    bad("door 1 ^open");
  }

  @Says("Terms: bed, a NUMBER (a HOUSE there is by then), in, a NUMBER (likewise)")
  private static void bedsOfItems() {
    bad(0, "bed ^0 in 0");
    bad(1, "bed ^1 in 0");
    bad(1, "bed 0 in ^1");
    bad(8, "bed ^8 in 0");
    bad(8, "bed 7 in ^8");
    bad(0, "inn;bed 0 in ^1;inn");
    bad(0, "inn;bed ^1 in 0;inn");
    bad("bed^");
    bad("bed ^;");
    bad("bed ^in");
    bad("bed 0^");
    bad("bed 0 ^0");
    bad("bed 0 ^;");
    bad("bed 0 ^inn 0");
    bad("bed 0 in^");
    bad("bed 0 in ^;");
    bad("bed 0 in ^in");
    bad("bed 0 in 0 ^0");
    StairRow x = new StairRow();
    DUE.is("by then", Due.read(x, "inn;bed 0 in 0;inn;bed 0 in 1;bed 1 in 0"), 5);
    DUE.is("bed of 0", x.of(0, 7), 1);
    DUE.is("bed of 1", x.of(1, 7), 0);
    StairRow full = Due.row(8, 0);
    DUE.is("first and last", Due.read(full, "bed 0 in 7;bed 7 in 0"), 2);
    DUE.is("bed of 0", full.of(0, 7), 7);
    DUE.is("bed of 7", full.of(7, 7), 0);
  }

  // ---- faults

  @Says("Terms: FAULT: the place (from 0) of the first byte of the first TOKEN that can't stand there")
  private static void faultOfTheFirstToken() {
    bad("^foo");
    bad("^left");
    bad("^from 1 to 2");
    bad("^sleepers 1");
    bad("^in");
    bad("^to");
    bad("^7");
    bad("   ^foo");
    bad("inn;   ^foo");
    bad("inn ^foo;bar");
    bad("door ^77;leave 99 99");
  }

  @Says("Terms: (.. a byte that begins no TOKEN ..)")
  private static void faultOfAByte() {
    bad("inn;^?");
    bad("inn^?;");
    bad("leave 0 1^?");
    bad("door ^?1");
    bad("door 1; ^#");
    bad("inn ^?left");
    // It is no fault of its own if another token can't stand ahead of it.
    bad("inn ^door ?");
    bad("^1?");
  }

  @Says("Terms: (.. the WORD of a 9th HOUSE: its own)")
  private static void faultOfANinthHouse() {
    for (String word : KINDS) {
      bad(8, "^" + word);
      bad(8, "door 1; ^" + word + " left from 99");
      bad(7, "inn;^" + word);
    }
    bad(0, "inn;inn;inn;inn;inn;inn;inn;inn; ^inn");
    bad(8, "^inn ?");
    bad(8, "^inn left");
    bad(7, "inn left;^inn right");
    DUE.is("eight", Due.read(new StairRow(), "inn;inn;inn;inn;inn;inn;inn;inn"), 8);
    DUE.is("the eighth", Due.read(Due.row(7, 0), "inn"), 1);
    DUE.is("none, but a door", Due.read(Due.row(8, 0), "door 1"), 1);
  }

  @Says("Terms: or how many bytes there are if it ends too early.")
  private static void faultAtTheEnd() {
    bad("^");
    bad(" ^");
    bad("door^");
    bad("door   ^");
    bad("inn;^");
    bad("inn;  ^");
    bad("leave 0  ^");
    bad("bed 0 in ^");
    bad("inn from 1 to  ^");
  }
}
