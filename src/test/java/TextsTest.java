/** Promises 1 to 6: a new object, letters, blank, fault, net, lane. */
public final class TextsTest {
  private static final Check check = new Check("TextsTest");

  public static void main(String[] args) {
    aNewObject();
    letters();
    blank();
    faultOfNets();
    faultOfWays();
    net();
    lane();
    check.end();
  }

  private static void aNewObject() {
    CarryAlike x = new CarryAlike();
    for (int what = 0; what <= 9; what++) {
      check.due("count(" + what + ") of a new object", x.count(what), 0);
    }
    check.due("blank() of a new object", x.blank(), 0);
    check.due("lane(0, 0) of a new object", x.lane(0, 0), CarryAlike.UNKNOWN);
    check.due("about(0, 0) of a new object", x.about(0, 0), CarryAlike.UNKNOWN);
    check.due("image() of a new object", x.image(), CarryAlike.STATE);
    check.due("restore() of a new object", x.restore(), CarryAlike.STATE);
    check.due("minutes(1) of a new object", x.minutes(1), CarryAlike.STATE);
    check.due("first(0) of a new object", x.first(0), CarryAlike.NONE);
    check.due("fits(0) of a new object", x.fits(0), 1);
  }

  private static void letters() {
    CarryAlike x = new CarryAlike();
    check.due("letters(0)", x.letters(0), 0);
    check.due("letters of 01", x.letters(Check.code("01")), 2);
    check.due("letters of eight", x.letters(Check.code(",12,23,3")), 10);
    check.due("letters behind them", x.letters(Check.code("4")), 11);
    check.due("they stand in order", x.net(), 4);
    check.due("lane(3, 1)", x.lane(3, 1), 4);
    check.due("codes 1 and 126", x.letters(1 | 126 << 8), 2);
    check.refused("letters with 127", x, () -> x.letters(127), CarryAlike.OUTSIDE);
    check.refused("letters with 255", x, () -> x.letters(-1L), CarryAlike.OUTSIDE);
    check.refused("letters with 128 at the top", x, () -> x.letters(Long.MIN_VALUE), CarryAlike.OUTSIDE);
    check.refused("letters behind a 0", x, () -> x.letters(0x310030L), CarryAlike.OUTSIDE);
    check.refused("letters behind a first 0", x, () -> x.letters(0x3000L), CarryAlike.OUTSIDE);
    Check.write(x, "012345670123456701234567012345670123456701234567");
    check.due("the page is full", x.count(5), 50);
    check.refused("one letter too many", x, () -> x.letters(48), CarryAlike.FULL);
    check.refused("OUTSIDE comes ahead of FULL", x, () -> x.letters(200), CarryAlike.OUTSIDE);
    check.due("none at all still goes", x.letters(0), 50);
    x.blank();
    Check.write(x, "012345670123456701234567012345670123456701234");
    check.refused("six behind 45", x, () -> x.letters(Check.code("012345")), CarryAlike.FULL);
    check.due("five behind 45", x.letters(Check.code("01234")), 50);
  }

  private static void blank() {
    CarryAlike x = new CarryAlike();
    Check.write(x, "hello");
    check.due("blank()", x.blank(), 5);
    check.due("count(5) behind it", x.count(5), 0);
    check.due("blank() again", x.blank(), 0);
  }

  private static void fault(int sort, String text, int due) {
    CarryAlike x = new CarryAlike();
    Check.write(x, text);
    check.due("fault(" + sort + ") of " + text, x.fault(sort), due);
    check.due("count(5) behind it", x.count(5), text.length());
  }

  private static void faultOfNets() {
    fault(0, "", 0);
    fault(0, "01", 2);
    fault(0, "0", 1);
    fault(0, "8", 0);
    fault(0, "9", 0);
    fault(0, "/", 0);
    fault(0, "08", 1);
    fault(0, "00", 1);
    fault(0, "=", 0);
    fault(0, ",", 0);
    fault(0, ";", 0);
    fault(0, "012", 2);
    fault(0, "01=", 3);
    fault(0, "01==", 3);
    fault(0, "01,", 3);
    fault(0, "01,,", 3);
    fault(0, "01,01", 4);
    fault(0, "01,10", 4);
    fault(0, "01,12,21", 7);
    fault(0, "01,12,2", 7);
    fault(0, "01=;", 4);
    fault(0, "01;;", 3);
    fault(0, "01;,", 3);
    fault(0, "01;d", 4);
    fault(0, "01;w", 4);
    fault(0, "01;dw", 5);
    fault(0, "01;wd", 4);
    fault(0, "01;dd", 4);
    fault(0, "01;ww", 4);
    fault(0, "01;dww", 5);
    fault(0, "01;D", 3);
    fault(0, "01;d,12", 4);
    fault(0, "01 ,12", 2);
    fault(0, "01,12,23,34,45,56,67,70,02,13,24,35", 35);
    fault(0, "01,12,23,34,45,56,67,70,02,13,24,35,", 35);
    fault(0, "01,12,23,34,45,56,67,70,02,13,24,35=,46", 36);
    fault(0, "01=,12=,23=,34=,45=,56=,67=,70=,02=,13=,24=,35=;dw", 50);
    faultOfJoinedToAll();
    CarryAlike x = new CarryAlike();
    check.refused("fault(2)", x, () -> x.fault(2), CarryAlike.OUTSIDE);
    check.refused("fault(-1)", x, () -> x.fault(-1), CarryAlike.OUTSIDE);
  }

  /** A corner that is joined to all others may begin a LANE: then no second digit can be. */
  private static void faultOfJoinedToAll() {
    fault(0, "01,02,03,04,05,06,07,0", 22);
    for (char second = '0'; second <= '9'; second++) {
      fault(0, "01,02,03,04,05,06,07,0" + second, 22);
      fault(0, "73=,74,75,76,17,27,07,7" + second, 23);
    }
    fault(0, "01,02,03,04,05,06,07,0=", 22);
    fault(0, "01,02,03,04,05,06,07,0,12", 22);
    fault(0, "01,02,03,04,05,06,07,8", 21);
    fault(0, "01,02,03,04,05,06,07,1", 22);
    fault(0, "01,02,03,04,05,06,07,10", 22);
    fault(0, "01,02,03,04,05,06,07,12", 23);
    fault(0, "30,31,32,34,53,63,37,3", 22);
    fault(0, "30,31,32,34,53,63,37,35", 22);
    fault(0, "30,31,32,34,53,63,37,43", 22);
    fault(0, "01,02,03,04,05,06,07,12,13,14,15,0", 34);
    fault(0, "01,02,03,04,05,06,07,12,13,14,15,01", 34);
    fault(0, "01,02,03,04,05,06,07,12,13,14,15,16,0", 35);
    CarryAlike x = new CarryAlike();
    for (String none : new String[] {"01,02,03,04,05,06,07,0", "01,02,03,04,05,06,07,01"}) {
      x.blank();
      Check.write(x, none);
      check.refused("net() of " + none, x, x::net, CarryAlike.STATE);
    }
  }

  private static void faultOfWays() {
    fault(1, "", 0);
    fault(1, "0", 1);
    fault(1, "00000000", 8);
    fault(1, "0171", 4);
    fault(1, "018", 2);
    fault(1, "01/", 2);
    fault(1, "0,1", 1);
    fault(1, "x", 0);
    fault(1, "01234567012345670123", 20);
    fault(1, "012345670123456701234", 20);
    fault(1, "01234567012345670123x", 20);
    fault(1, "0123456701234567012x", 19);
  }

  private static void net() {
    CarryAlike x = new CarryAlike();
    check.refused("net() of an empty page", x, x::net, CarryAlike.STATE);
    for (String none : new String[] {"0", "01,", "01;", "01,1", "00", "01,10", "01=;dw ", "01==", ",01"}) {
      x.blank();
      Check.write(x, none);
      check.refused("net() of " + none, x, x::net, CarryAlike.STATE);
    }
    for (String some : new String[] {"01", "01=", "10,12", "01;d", "01=;w", "01,02,03=;dw"}) {
      x.blank();
      Check.write(x, some);
      int lanes = some.split(",").length;
      check.due("net() of " + some, x.net(), lanes);
      check.due("count(0) behind it", x.count(0), lanes);
      check.due("count(1) behind it", x.count(1), some.indexOf('=') < 0 ? 0 : 1);
      check.due("count(8) behind it", x.count(8), some.indexOf('d') < 0 ? 0 : 1);
      check.due("count(9) behind it", x.count(9), some.indexOf('w') < 0 ? 0 : 1);
      check.due("the page is empty", x.count(5), 0);
    }
    check.due("nets read", x.count(6), 6);
    anotherNetTakesAll(x);
    CarryAlike longest = new CarryAlike();
    Check.write(longest, "01=,12=,23=,34=,45=,56=,67=,70=,02=,13=,24=,35=;dw");
    check.due("net() of fifty letters", longest.net(), 12);
    check.due("wide ones", longest.count(1), 12);
  }

  private static void anotherNetTakesAll(CarryAlike x) {
    x.walker(0, 0, 1, 3);
    x.heap(2, 9);
    x.minutes(7);
    x.image();
    Check.write(x, "0");
    x.net();
    check.due("walkers behind a text that is no net", x.count(2), 1);
    check.due("minutes behind it", x.count(4), 7);
    check.due("restore() behind it", x.restore(), 7);
    Check.write(x, "1");
    check.due("net()", x.net(), 1);
    check.due("walkers behind another net", x.count(2), 0);
    check.due("minutes behind another net", x.count(4), 0);
    check.due("law behind another net", x.count(8) + x.count(9), 0);
    check.due("lane(1, 0) behind another net", x.lane(1, 0), CarryAlike.UNKNOWN);
    x.walker(0, 0, 0, 0);
    Check.write(x, "2");
    check.due("the old lane from 0 to 2 is gone", x.way(0), CarryAlike.STATE);
    x.blank();
    check.due("restore() behind another net", x.restore(), CarryAlike.STATE);
    check.due("heap(2, 0) behind another net", x.heap(2, 0), 0);
  }

  private static void lane() {
    CarryAlike x = Check.withNet("70=,12,31=;d");
    int[][] due = {{7, 0, 1}, {1, 2, 0}, {3, 1, 1}};
    for (int lane = 0; lane < 3; lane++) {
      for (int what = 0; what < 3; what++) {
        check.due("lane(" + lane + ", " + what + ")", x.lane(lane, what), due[lane][what]);
      }
    }
    check.refused("lane(3, 0)", x, () -> x.lane(3, 0), CarryAlike.UNKNOWN);
    check.refused("lane(-1, 0)", x, () -> x.lane(-1, 0), CarryAlike.UNKNOWN);
    check.refused("lane(0, 3)", x, () -> x.lane(0, 3), CarryAlike.OUTSIDE);
    check.refused("lane(0, -1)", x, () -> x.lane(0, -1), CarryAlike.OUTSIDE);
    check.refused("lane(3, 3)", x, () -> x.lane(3, 3), CarryAlike.UNKNOWN);
    check.refused("lane(Integer.MAX_VALUE, 0)", x, () -> x.lane(Integer.MAX_VALUE, 0), CarryAlike.UNKNOWN);
  }
}
