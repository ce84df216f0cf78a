/** Promises 33 to 35: THE TAPE and the texts on it. */
public final class TextsTest {
  private static final Due DUE = new Due();

  public static void main(String[] args) {
    promise33Feed();
    promise34Wipe();
    promise35Kinds();
    promise35HouseParts();
    promise35Sets();
    promise35DoorsAndBeds();
    promise35Tokens();
    promise35FaultsOfHouses();
    promise35FaultsOfOthers();
    promise35NothingChanges();
    promise35NinthHouse();
    DUE.end();
  }

  private static void promise33Feed() {
    StairRow x = new StairRow();
    for (int no : new int[] {0, 5, -1, Integer.MIN_VALUE, Integer.MAX_VALUE}) {
      DUE.is("33 n " + no, x.feed(0, no), Due.BEYOND);
    }
    DUE.is("33 one", x.feed('d', 1), 1);
    DUE.is("33 two", x.feed('o' << 8 | 'o', 2), 3);
    DUE.is("33 three, the rest is not asked", x.feed(0xff << 24 | 'r' << 16 | ' ' << 8 | '1', 3), 6);
    DUE.is("33 the highest first", x.text(), 1);
    DUE.is("33 door 1", x.door(1, false), 1);
    DUE.is("33 four", x.feed('d' << 24 | 'o' << 16 | 'o' << 8 | 'r', 4), 4);
    DUE.is("33 the lowest of a number", x.feed(0x12345600 | '2', 1), 5);
    DUE.is("33 text", x.text(), 1);
    DUE.is("33 door 2", x.door(2, false), 1);
    for (int n = 4; n <= 116; n += 4) {
      DUE.is("33 has", x.feed(-1, 4), n);
    }
    DUE.is("33 119", x.feed(0, 3), 119);
    DUE.is("33 full by one", x.feed(0, 2), Due.FULL);
    DUE.is("33 no such n, though full", x.feed(0, 5), Due.BEYOND);
    DUE.is("33 nothing came", x.count(4), 119);
    DUE.is("33 the last", x.feed(0, 1), 120);
    DUE.is("33 full", x.feed(0, 1), Due.FULL);
    DUE.is("33 a byte above 127 begins no token", x.text(), -1);
  }

  private static void promise34Wipe() {
    StairRow x = new StairRow();
    DUE.is("34 empty", x.wipe(), 0);
    Due.type(x, "inn; inn");
    DUE.is("34 had", x.wipe(), 8);
    DUE.is("34 has none", x.count(4), 0);
    DUE.is("34 no text", x.text(), -1);
    DUE.is("34 no houses", x.count(0), 0);
    for (int k = 0; k < 30; k++) {
      x.feed(0, 4);
    }
    DUE.is("34 had 120", x.wipe(), 120);
    DUE.is("34 there is place again", x.feed(0, 1), 1);
  }

  private static void promise35Kinds() {
    StairRow x = new StairRow();
    int many = Due.read(x, "house;strict;open;inn;guard;sick;quarrel");
    DUE.is("35 kinds", many, 7);
    for (int h = 0; h < 7; h++) {
      DUE.is("35 kind of " + h, x.of(h, 0), h);
      DUE.is("35 stair of " + h, x.of(h, 1), -1);
      DUE.is("35 from of " + h, x.of(h, 3), 6);
      DUE.is("35 to of " + h, x.of(h, 4), 22);
      DUE.is("35 sleepers of " + h, x.of(h, 6), 2);
      DUE.is("35 bed of " + h, x.of(h, 7), h);
    }
    DUE.is("35 the tape is empty", x.count(4), 0);
    DUE.is("35 the eighth", Due.read(x, "inn left"), 1);
    DUE.is("35 stair of the eighth", x.of(7, 1), 6);
  }

  private static void promise35HouseParts() {
    StairRow x = new StairRow();
    DUE.is("35 all parts", Due.read(x, "sick right from 23 to 0 sleepers 9"), 1);
    int[] due = {5, 1, 0, 23, 0, 0, 9, 0};
    for (int what = 0; what < 8; what++) {
      DUE.is("35 of(0, " + what + ")", x.of(0, what), due[what]);
    }
    DUE.is("35 left and sleepers", Due.read(x, "guard left sleepers 0"), 1);
    DUE.is("35 left", x.of(1, 1), 0);
    DUE.is("35 sleepers", x.of(1, 6), 0);
    DUE.is("35 hours alone", Due.read(x, "open from 0 to 23"), 1);
    DUE.is("35 from", x.of(2, 3), 0);
    DUE.is("35 to", x.of(2, 4), 23);
    DUE.is("35 no stair", x.of(2, 1), -1);
  }

  private static void promise35Sets() {
    StairRow x = Due.row(1, 0);
    x.name(0, 0, 3, true);
    x.name(0, 1, 4, true);
    DUE.is("35 sets", Due.read(x, "leave 0 7;foes 0 6 0;inn;leave 1 0 1 2 3 4 5 6 7 7"), 4);
    DUE.is("35 leave is added", x.of(0, 2), 128 | 8);
    DUE.is("35 foes are added", x.of(0, 5), 64 | 16 | 1);
    DUE.is("35 leave of the new one", x.of(1, 2), 255);
    DUE.is("35 foes of the new one", x.of(1, 5), 0);
  }

  private static void promise35DoorsAndBeds() {
    StairRow x = new StairRow();
    DUE.is("35 doors", Due.read(x, "door 0;door 13;door 0"), 3);
    DUE.is("35 open doors", x.count(1), 2);
    DUE.is("35 door 13", x.door(13, true), 1);
    DUE.is("35 beds", Due.read(x, "inn;inn;bed 0 in 1;bed 1 in 1;bed 1 in 0"), 5);
    DUE.is("35 bed of 0", x.of(0, 7), 1);
    DUE.is("35 bed of 1", x.of(1, 7), 0);
  }

  private static void promise35Tokens() {
    StairRow x = new StairRow();
    DUE.is("35 blanks", Due.read(x, "inn  right   from 1  to 2 ;  door   3"), 2);
    DUE.is("35 ahead and behind", Due.read(x, "  door 4  "), 1);
    DUE.is("35 without blanks", Due.read(x, "house from1to2sleepers3;leave0 1;door5"), 3);
    DUE.is("35 from", x.of(1, 3), 1);
    DUE.is("35 sleepers", x.of(1, 6), 3);
    DUE.is("35 zeros ahead", Due.read(x, "door 0006;door 000000000000000013"), 2);
    DUE.is("35 open doors", x.count(1), 5);
    DUE.is("35 as long as can be", Due.read(x, "doors 1"), -1);
    DUE.is("35 as long as can be", Due.read(x, "inninn"), -1);
    DUE.is("35 two words", Due.read(x, "inn inn"), -5);
    DUE.is("35 a part of a word", Due.read(x, "inns"), -1);
    DUE.is("35 a part of a word", Due.read(x, "hous"), -1);
    DUE.is("35 another first letter", Due.read(x, "mouse"), -1);
    DUE.is("35 another last letter", Due.read(x, "houst"), -1);
    DUE.is("35 a capital", Due.read(x, "Inn"), -1);
    DUE.is("35 a capital in it", Due.read(x, "inN"), -1);
    DUE.is("35 a capital behind", Due.read(x, "inn N"), -5);
    DUE.is("35 a word to its capital", Due.read(x, "innN"), -4);
    DUE.is("35 no sign", Due.read(x, "inn, inn"), -4);
    DUE.is("35 no blank", Due.read(x, "inn\tright"), -4);
    DUE.is("35 a line's end", Due.read(x, "inn\n"), -4);
    DUE.is("35 below 0", Due.read(x, "door -1"), -6);
    DUE.is("35 1000", Due.read(x, "door 1000"), -6);
    DUE.is("35 a number that wraps", Due.read(x, "door 4294967297"), -6);
    DUE.is("35 a number far beyond", Due.read(x, "door 99999999999999999999"), -6);
    DUE.is("35 around the letters", Due.read(x, "inn`"), -4);
    DUE.is("35 around the letters", Due.read(x, "inn{"), -4);
    DUE.is("35 around the digits", Due.read(x, "door 1/"), -7);
    DUE.is("35 around the digits", Due.read(x, "door 1:"), -7);
    DUE.is("35 byte 255", Due.read(x, "inn" + (char) 255), -4);
  }

  private static int fault(String text) {
    return -1 - Due.read(Due.row(2, 0), text);
  }

  private static void promise35FaultsOfHouses() {
    DUE.is("35 empty", fault(""), 0);
    DUE.is("35 blanks alone", fault("   "), 3);
    DUE.is("35 a sign ahead", fault(";inn"), 0);
    DUE.is("35 a number ahead", fault("1"), 0);
    DUE.is("35 ends with a sign", fault("inn;"), 4);
    DUE.is("35 ends with a sign and blanks", fault("inn; "), 5);
    DUE.is("35 two signs", fault("inn;;inn"), 4);
    DUE.is("35 a part ahead", fault("right inn"), 0);
    DUE.is("35 both stairs", fault("inn left right"), 9);
    DUE.is("35 hours, then a stair", fault("inn from 1 to 2 left"), 16);
    DUE.is("35 sleepers twice", fault("inn sleepers 1 sleepers 1"), 15);
    DUE.is("35 a number", fault("inn 3"), 4);
    DUE.is("35 from without a number", fault("inn from to 3"), 9);
    DUE.is("35 from ends", fault("inn from"), 8);
    DUE.is("35 from 24", fault("inn from 24 to 3"), 9);
    DUE.is("35 no to", fault("inn from 3 4"), 11);
    DUE.is("35 to ends", fault("inn from 3 to "), 14);
    DUE.is("35 to 24", fault("inn from 3 to 24"), 14);
    DUE.is("35 to alone", fault("inn to 3"), 4);
    DUE.is("35 sleepers 10", fault("inn sleepers 10"), 13);
    DUE.is("35 sleepers ends", fault("inn sleepers"), 12);
    DUE.is("35 sleepers, a sign", fault("inn sleepers;inn"), 12);
    DUE.is("35 left with house 0", -1 - Due.read(new StairRow(), "inn left"), 4);
    DUE.is("35 left with house 1", Due.read(new StairRow(), "inn;inn left"), 2);
    DUE.is("35 right with house 7", -1 - Due.read(Due.row(7, 0), "inn right"), 4);
    DUE.is("35 right with house 6", Due.read(Due.row(6, 0), "inn right"), 1);
  }

  private static void promise35FaultsOfOthers() {
    for (String word : new String[] {"leave", "foes"}) {
      int n = word.length();
      DUE.is("35 no house", fault(word), n);
      DUE.is("35 no family", fault(word + " 0"), n + 2);
      DUE.is("35 no family but a sign", fault(word + " 0;inn"), n + 2);
      DUE.is("35 house 2", fault(word + " 2 0"), n + 1);
      DUE.is("35 house 2 by then", fault("inn;" + word + " 2 0"), -2 - 1);
      DUE.is("35 house 3 by then", fault("inn;" + word + " 3 0"), 5 + n);
      DUE.is("35 family 8", fault(word + " 1 0 8"), n + 5);
      DUE.is("35 a word", fault(word + " 1 inn"), n + 3);
      DUE.is("35 a word behind", fault(word + " 1 1 inn"), n + 5);
    }
    DUE.is("35 door", fault("door"), 4);
    DUE.is("35 door 14", fault("door 14"), 5);
    DUE.is("35 two numbers", fault("door 3 4"), 7);
    DUE.is("35 door of a word", fault("door door"), 5);
    DUE.is("35 bed", fault("bed"), 3);
    DUE.is("35 bed 2", fault("bed 2 in 0"), 4);
    DUE.is("35 no in", fault("bed 1 1"), 6);
    DUE.is("35 another word", fault("bed 1 inn 1"), 6);
    DUE.is("35 in ends", fault("bed 1 in"), 8);
    DUE.is("35 in 2", fault("bed 1 in 2"), 9);
    DUE.is("35 in 2 by then", fault("inn;bed 1 in 2;bed 2 in 0"), -3 - 1);
    DUE.is("35 too much", fault("bed 1 in 0 0"), 11);
  }

  private static void promise35NothingChanges() {
    StairRow x = Due.row(2, 0);
    x.seed(77);
    int got = Due.read(x, "inn left;door 3;leave 0 1;foes 1 0;bed 0 in 1;bed 1 in 3");
    DUE.is("35 late fault", got, -56);
    DUE.is("35 no new house", x.count(0), 2);
    DUE.is("35 no door", x.count(1), 0);
    DUE.is("35 no leave", x.of(0, 2), 0);
    DUE.is("35 no foes", x.of(1, 5), 0);
    DUE.is("35 no bed", x.of(0, 7), 0);
    DUE.is("35 the tape is empty", x.count(4), 0);
    DUE.is("35 no finding", x.status(-1), 0);
    DUE.is("35 z", x.count(5), 77);
    x.hold(3, 1);
    x.image();
    DUE.is("35 a text", Due.read(x, "door 1"), 1);
    DUE.is("35 what texts don't tell stays", x.as(3, 0), 1);
    DUE.is("35 z stays", x.count(5), 77);
    DUE.is("35 the image stays", x.undo(), 2);
    DUE.is("35 as it was", x.count(1), 0);
  }

  private static void promise35NinthHouse() {
    StairRow x = new StairRow();
    String eight = "inn;inn;inn;inn;inn;inn;inn;inn";
    DUE.is("35 a ninth", Due.read(x, eight + "; inn"), -34);
    DUE.is("35 none came", x.count(0), 0);
    DUE.is("35 eight", Due.read(x, eight), 8);
    DUE.is("35 one more", Due.read(x, "door 1;sick left"), -8);
    DUE.is("35 other items go on", Due.read(x, "door 1;bed 7 in 0"), 2);
    String most = "door 1";
    for (int k = 1; k < 17; k++) {
      most += ";door1";
    }
    DUE.is("35 items of a full tape", Due.read(x, most), 17);
  }
}
