/** What the document says of THE NET and of promises 1 to 6 at their edges: a test for each sentence. */
public final class EdgesOfTextsTest {
  private static final Check check = new Check("EdgesOfTextsTest");
  private static final int UNKNOWN = CarryAlike.UNKNOWN, OUTSIDE = CarryAlike.OUTSIDE, STATE = CarryAlike.STATE, FULL = CarryAlike.FULL;
  private static final int MIN = Integer.MIN_VALUE, MAX = Integer.MAX_VALUE;
  private static final String TWELVE = "01=,12=,23=,34=,45=,56=,67=,70=,02=,13=,24=,35=";
  private static final String FIFTY = TWELVE + ";dw";

  private static final Twins nothing = new Twins(check, "nothing", Twins::nothing);
  private static final Twins netAlone = new Twins(check, "a net alone", Twins::netAlone);
  private static final Twins three = new Twins(check, "three on their ways", Twins::threeOnTheirWays);
  private static final Twins five = new Twins(check, "five and a full page", Twins::fiveAndAFullPage);
  private static final Twins[] all = {nothing, netAlone, three, five};

  public static void main(String[] args) {
    noNetNoWalkers();
    lettersUpToEight();
    lettersUntilAZero();
    lettersAbove126();
    lettersBehindAZero();
    lettersAboveFifty();
    lettersOutsideAheadOfFull();
    blankOfEmptyAndFull();
    faultOfAnotherSort();
    faultOfAnEmptyPage();
    faultOfAFullPage();
    faultByEachLetterOfANet();
    faultByEachLetterOfAWay();
    faultBehindThoseAheadOfIt();
    netOfOneToTwelveLanes();
    netOfEachBeginning();
    netWithALawOfOneAtLeast();
    netIsNone();
    netTakesAllThereWas();
    laneUnknown();
    laneOutside();
    laneAsTold();
    check.end();
  }

  private static CarryAlike withPage(String text) {
    CarryAlike x = new CarryAlike();
    Check.write(x, text);
    return x;
  }

  // ---- promise 1

  private static void noNetNoWalkers() {
    CarryAlike x = new CarryAlike();
    check.due("net()", x.net(), STATE);
    check.due("image()", x.image(), STATE);
    check.due("restore()", x.restore(), STATE);
    check.due("minutes(1)", x.minutes(1), STATE);
    check.due("heap(0, 0)", x.heap(0, 0), STATE);
    check.due("walker(0, 0, 0, 0)", x.walker(0, 0, 0, 0), STATE);
    check.due("crowd(1, 0, 0)", x.crowd(1, 0, 0), STATE);
    check.due("soonest(0)", x.soonest(0), STATE);
    check.due("wider(0)", x.wider(0), STATE);
    check.due("lane(0, 0)", x.lane(0, 0), UNKNOWN);
    check.due("about(0, 0)", x.about(0, 0), UNKNOWN);
    check.due("as(0, 0)", x.as(0, 0), UNKNOWN);
    check.due("way(0)", x.way(0), UNKNOWN);
    check.due("load(0, 0)", x.load(0, 0), UNKNOWN);
    check.due("pass(0, 1)", x.pass(0, 1), UNKNOWN);
    check.due("take(0, 0)", x.take(0, 0), UNKNOWN);
    check.due("enough(0)", x.enough(0), UNKNOWN);
    check.due("sure(0, 0)", x.sure(0, 0), UNKNOWN);
    check.due("fits(1)", x.fits(1), OUTSIDE);
    check.due("fits(0)", x.fits(0), 1);
    check.due("first(0)", x.first(0), CarryAlike.NONE);
    for (int what = 0; what <= 9; what++) {
      check.due("count(" + what + ")", x.count(what), 0);
    }
  }

  // ---- promise 2

  private static void lettersUpToEight() {
    String eight = "abcdefgh";
    for (int many = 0; many <= 8; many++) {
      CarryAlike x = new CarryAlike();
      check.due(many + " letters", x.letters(Check.code(eight.substring(0, many))), many);
      check.due("count(5) behind them", x.count(5), many);
    }
  }

  /** The lowest byte comes first, and a 0 that all bytes behind it follow ends them. */
  private static void lettersUntilAZero() {
    CarryAlike x = new CarryAlike();
    check.due("letters of a single one", x.letters('0'), 1);
    check.due("letters behind it", x.letters(0x2C31L), 3);
    check.due("in this order they begin a net", x.fault(0), 3);
    check.due("none at all", x.letters(0), 3);
    check.due("the least and the greatest code", x.letters(0x7E01L), 5);
    CarryAlike y = new CarryAlike();
    y.letters(0x3031L);
    y.net();
    check.due("the lowest byte first", y.lane(0, 0), 1);
    check.due("then the next one", y.lane(0, 1), 0);
  }

  private static void lettersAbove126() {
    for (int place = 0; place < 8; place++) {
      long others = 0x3030303030303030L & ~(255L << 8 * place);
      check.due("126 at " + place, new CarryAlike().letters(others | 126L << 8 * place), 8);
      for (long code : new long[] {127, 128, 254, 255}) {
        long w = others | code << 8 * place;
        for (Twins twins : all) {
          twins.refused("letters of " + code + " at " + place, x -> x.letters(w), OUTSIDE);
        }
      }
    }
  }

  private static void lettersBehindAZero() {
    for (int zero = 0; zero < 7; zero++) {
      for (int behind = zero + 1; behind < 8; behind++) {
        long before = 0x3030303030303030L & (1L << 8 * zero) - 1;
        for (long code : new long[] {1, 48, 126, 127, 255}) {
          long w = before | code << 8 * behind;
          check.due("letters of " + code + " at " + behind + " behind a 0 at " + zero, new CarryAlike().letters(w), OUTSIDE);
        }
        long w = before | 48L << 8 * behind;
        three.refused("letters at " + behind + " behind a 0 at " + zero, x -> x.letters(w), OUTSIDE);
      }
    }
  }

  private static void lettersAboveFifty() {
    String fifty = "0123456701234567012345670123456701234567012345670~";
    for (int free = 0; free <= 8; free++) {
      String there = fifty.substring(0, 50 - free);
      long just = Check.code("hijklmno".substring(0, free));
      check.due("letters up to 50 behind " + (50 - free), withPage(there).letters(just), 50);
      for (int more = free + 1; more <= 8; more++) {
        long w = Check.code("hijklmno".substring(0, more));
        Twins twins = new Twins(check, there, x -> Check.write(x, there));
        twins.refused(more + " letters", x -> x.letters(w), FULL);
      }
    }
    five.refused("letters above 50", x -> x.letters('1'), FULL);
    CarryAlike x = withPage(fifty);
    check.due("none at all behind 50", x.letters(0), 50);
    x.blank();
    check.due("behind blank() there is room", x.letters('1'), 1);
  }

  private static void lettersOutsideAheadOfFull() {
    five.refused("letters of 127", x -> x.letters(127), OUTSIDE);
    five.refused("letters behind a 0", x -> x.letters(0x3000L), OUTSIDE);
    five.refused("letters of eight, the last one 127", x -> x.letters(0x7F30303030303030L), OUTSIDE);
  }

  // ---- promise 3

  private static void blankOfEmptyAndFull() {
    check.due("blank() of a new object", new CarryAlike().blank(), 0);
    CarryAlike x = withPage("1");
    check.due("blank() of one", x.blank(), 1);
    check.due("blank() of none", x.blank(), 0);
    check.due("count(5) then", x.count(5), 0);
    Check.write(x, FIFTY);
    check.due("blank() of fifty", x.blank(), 50);
    check.due("fault(0) then", x.fault(0), 0);
    check.due("net() then", x.net(), STATE);
    Check.write(x, FIFTY);
    check.due("there is room for fifty again", x.count(5), 50);
    check.due("they are a net", x.net(), 12);
    check.due("blank() behind net()", x.blank(), 0);
  }

  // ---- promise 4

  private static void faultOfAnotherSort() {
    for (Twins twins : all) {
      twins.refusedFor("fault", CarryAlike::fault, OUTSIDE, MIN, -1, 2, MAX);
    }
  }

  private static void faultOfAnEmptyPage() {
    check.due("fault(0)", new CarryAlike().fault(0), 0);
    check.due("fault(1)", new CarryAlike().fault(1), 0);
    CarryAlike x = withPage(FIFTY);
    x.net();
    check.due("fault(0) behind net()", x.fault(0), 0);
    check.due("fault(1) behind net()", x.fault(1), 0);
  }

  private static void faultOfAFullPage() {
    check.due("fault(0) of the longest net", withPage(FIFTY).fault(0), 50);
    check.due("fault(0) with the last letter wrong", withPage(TWELVE + ";dd").fault(0), 49);
    check.due("fault(0) of twelve, and nothing but letters behind", withPage(TWELVE + ",01").fault(0), 47);
    check.due("fault(1) of fifty digits", withPage("01234567012345670123456701234567012345670123456701").fault(1), 20);
    check.due("fault(1) of the longest net", withPage(FIFTY).fault(1), 2);
  }

  /** Behind a beginning of a net just these letters can be. */
  private static void faultByEachLetterOfANet() {
    String eleven = TWELVE.substring(0, 43);
    String[][] can = {
      {"", "01234567"}, {"0", "1234567"}, {"7", "0123456"}, {"4", "0123567"},
      {"01", "=,;"}, {"76", "=,;"}, {"01=", ",;"}, {"01,", "01234567"}, {"01=,", "01234567"},
      {"01,0", "234567"}, {"01,1", "234567"}, {"01,2", "0134567"}, {"10,0", "234567"}, {"01,02,12,2", "34567"},
      {"01;", "dw"}, {"01=;", "dw"}, {"01;d", "w"}, {"01;w", ""}, {"01;dw", ""},
      {eleven, ",;"}, {eleven + ",", "01234567"}, {eleven + ",3", "0567"}, {eleven + ",46", "=;"},
      {TWELVE, ";"}, {TWELVE.substring(0, 46), "=;"}, {TWELVE + ";", "dw"}, {TWELVE + ";d", "w"}, {TWELVE + ";w", ""}};
    for (String[] one : can) {
      for (char letter = 1; letter <= 126; letter++) {
        int due = one[0].length() + (one[1].indexOf(letter) >= 0 ? 1 : 0);
        check.due("fault(0) of " + one[0] + " and " + (int) letter, withPage(one[0] + letter).fault(0), due);
      }
      check.due("fault(0) of " + one[0], withPage(one[0]).fault(0), one[0].length());
    }
  }

  private static void faultByEachLetterOfAWay() {
    String nineteen = "0123456701234567012";
    for (String digits : new String[] {"", "0", "77", nineteen, nineteen + "3"}) {
      for (char letter = 1; letter <= 126; letter++) {
        boolean can = letter >= '0' && letter <= '7' && digits.length() < 20;
        check.due("fault(1) of " + digits + " and " + (int) letter, withPage(digits + letter).fault(1), digits.length() + (can ? 1 : 0));
      }
    }
    check.due("fault(1) of twenty", withPage(nineteen + "3").fault(1), 20);
    check.due("by digits alone: no lane joins them", withPage("0737").fault(1), 4);
  }

  /** The first one counts; what stands behind it is free. */
  private static void faultBehindThoseAheadOfIt() {
    check.due("fault(0) of two faults", withPage("01,00,88").fault(0), 4);
    check.due("fault(0) at the first letter", withPage("x01,12").fault(0), 0);
    check.due("fault(1) of two faults", withPage("0x1y").fault(1), 1);
    CarryAlike x = withPage("01,1");
    check.due("fault(0)", x.fault(0), 4);
    check.due("it is no net though", x.net(), STATE);
    check.due("fault(0) again, from the beginning", x.fault(0), 4);
    x.letters('1');
    check.due("fault(0) with one letter more", x.fault(0), 4);
  }

  // ---- promise 5

  private static void netOfOneToTwelveLanes() {
    String[] lanes = TWELVE.split(",");
    String text = "";
    for (int many = 1; many <= 12; many++) {
      text += (many == 1 ? "" : ",") + lanes[many - 1].substring(0, 2);
      CarryAlike x = withPage(text);
      check.due("net() of " + many, x.net(), many);
      check.due("count(0)", x.count(0), many);
      check.due("count(1)", x.count(1), 0);
      check.due("the page is empty then", x.count(5), 0);
    }
    String thirteen = text + ",46";
    Twins twins = new Twins(check, thirteen, x -> Check.write(x, thirteen));
    twins.refused("net() of thirteen", CarryAlike::net, STATE);
  }

  private static void netOfEachBeginning() {
    for (int length = 0; length <= 50; length++) {
      String text = FIFTY.substring(0, length);
      boolean whole = text.matches("(..=,)*..=?") || text.matches("(..=,)*..=;dw?");
      int lanes = (length + 2) / 4 > 12 ? 12 : (length + 2) / 4;
      check.due("net() of " + text, withPage(text).net(), whole ? lanes : STATE);
    }
  }

  private static void netWithALawOfOneAtLeast() {
    String[] laws = {"", ";d", ";w", ";dw"};
    for (int law = 0; law < 4; law++) {
      CarryAlike x = withPage("01" + laws[law]);
      check.due("net() with the law " + laws[law], x.net(), 1);
      check.due("count(8)", x.count(8), law & 1);
      check.due("count(9)", x.count(9), law >> 1);
    }
    for (String law : new String[] {";", ";wd", ";dd", ";ww", ";;d", "d", "w", ";dw;", ";D", ";d,12"}) {
      check.due("net() with the law " + law, withPage("01" + law).net(), STATE);
    }
    check.due("a law alone", withPage(";dw").net(), STATE);
  }

  private static void netIsNone() {
    for (Twins twins : all) {
      twins.refused("net()", CarryAlike::net, STATE);
    }
    for (String none : new String[] {"0", "00", "08", "80", "01,", "01,01", "01,10", "01==", "=01", ",01", "01,,12", "01 ", "01;", "xy"}) {
      Twins twins = new Twins(check, none, x -> {
        Twins.threeOnTheirWays(x);
        x.blank();
        Check.write(x, none);
      });
      twins.refused("net()", CarryAlike::net, STATE);
    }
  }

  /** Another NET is gone, with all that was in it, and of the same text too. */
  private static void netTakesAllThereWas() {
    CarryAlike x = three.another();
    x.blank();
    Check.write(x, "01,12=,23,30;d");
    check.due("net()", x.net(), 4);
    int[] counts = {4, 1, 0, 0, 0, 0, 2, 1, 1, 0};
    for (int what = 0; what <= 9; what++) {
      check.due("count(" + what + ")", x.count(what), counts[what]);
    }
    for (int corner = 0; corner < 8; corner++) {
      check.due("heap(" + corner + ", 0)", x.heap(corner, 0), 0);
    }
    check.due("about(0, 0)", x.about(0, 0), UNKNOWN);
    check.due("restore()", x.restore(), STATE);
    check.due("the first number is free", x.walker(1, 0, 0, 0), 0);
    check.due("it has no way", x.about(0, 5), 0);
  }

  // ---- promise 6

  private static void laneUnknown() {
    nothing.refusedFor("lane", (x, number) -> x.lane(number, 0), UNKNOWN, MIN, -1, 0, 11, MAX);
    netAlone.refusedFor("lane", (x, number) -> x.lane(number, 0), UNKNOWN, MIN, -1, 4, 11, 12, MAX);
    three.refusedFor("lane", (x, number) -> x.lane(number, 2), UNKNOWN, MIN, -1, 4, MAX);
    three.refused("lane, UNKNOWN ahead of OUTSIDE", x -> x.lane(4, 3), UNKNOWN);
    three.refused("lane, UNKNOWN ahead of OUTSIDE", x -> x.lane(-1, -1), UNKNOWN);
    CarryAlike x = withPage(FIFTY);
    x.net();
    check.due("the twelfth one", x.lane(11, 1), 5);
    check.due("a thirteenth one", x.lane(12, 1), UNKNOWN);
    Check.write(x, "67");
    x.net();
    check.due("one that was of another net", x.lane(1, 0), UNKNOWN);
  }

  private static void laneOutside() {
    netAlone.refusedFor("lane", (x, number) -> x.lane(0, number), OUTSIDE, MIN, -1, 3, MAX);
    netAlone.refusedFor("lane", (x, number) -> x.lane(3, number), OUTSIDE, -1, 3);
  }

  private static void laneAsTold() {
    CarryAlike x = withPage("70,16=,25");
    x.net();
    int[][] due = {{7, 0, 0}, {1, 6, 1}, {2, 5, 0}};
    for (int lane = 0; lane < 3; lane++) {
      for (int what = 0; what < 3; what++) {
        check.due("lane(" + lane + ", " + what + ")", x.lane(lane, what), due[lane][what]);
      }
    }
  }
}
