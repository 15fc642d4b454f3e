/** Promises 23 to 26: image, restore, count, digest. */
public final class TellingTest {
  private static final Check check = new Check("TellingTest");

  public static void main(String[] args) {
    imageAndRestore();
    onlyTheLatestImage();
    imageIsGoneWithItsNet();
    count();
    digestOfANewObject();
    digestNumberByNumber();
    check.end();
  }

  private static void imageAndRestore() {
    CarryAlike x = new CarryAlike();
    check.refused("image() without a net", x, x::image, CarryAlike.STATE);
    check.refused("restore() without an image", x, x::restore, CarryAlike.STATE);
    Check.write(x, "01,12,23");
    x.net();
    check.refused("restore() with a net alone", x, x::restore, CarryAlike.STATE);
    Check.walker(x, 1, 0, 3, 5, "12321");
    Check.walker(x, 2, 3, 3, 6, "");
    x.heap(2, 40);
    x.minutes(2);
    check.due("image()", x.image(), 2);
    long kept = x.digest();
    x.minutes(1);
    x.load(0, 9);
    x.heap(2, 7);
    x.heap(3, 8);
    Check.way(x, 1, "32");
    Check.walker(x, 3, 0, 0, 0, "0");
    x.minutes(9);
    check.due("restore()", x.restore(), 2);
    check.due("digest() of the image", x.digest(), kept);
    check.due("where 0 is", x.about(0, 1), 2);
    check.due("its load", x.about(0, 3), 5);
    check.due("what is left of its way", x.about(0, 5), 3);
    check.due("the next one", x.about(0, 6), 3);
    check.due("the way that 1 had", x.about(1, 5), 0);
    check.due("walkers", x.count(2), 2);
    check.due("a heap", x.heap(2, 40), 40);
    check.due("another heap", x.heap(3, 0), 0);
    check.due("restore() again", x.restore(), 2);
    Check.way(x, 0, "2");
    check.due("another way", x.about(0, 5), 1);
    x.restore();
    check.due("the old way again", x.about(0, 5), 3);
    Check.way(x, 0, "1000");
    x.restore();
    check.due("its next corner", x.about(0, 6), 3);
    check.due("who comes then has no way", x.about(Check.walker(x, 0, 0, 0, 1, ""), 5), 0);
    x.minutes(3);
    check.due("and 0 goes to the end", x.about(0, 1), 1);
  }

  private static void onlyTheLatestImage() {
    CarryAlike x = Check.withNet("01");
    check.due("image() of a net alone", x.image(), 0);
    x.walker(0, 0, 1, 2);
    x.minutes(5);
    check.due("image()", x.image(), 5);
    x.minutes(5);
    Check.write(x, "xyz");
    check.due("restore()", x.restore(), 5);
    check.due("walkers", x.count(2), 1);
    check.due("the page stays", x.count(5), 3);
    check.due("nets read", x.count(6), 1);
  }

  private static void imageIsGoneWithItsNet() {
    CarryAlike x = Check.withNet("01");
    x.image();
    Check.write(x, "01");
    x.net();
    check.refused("restore() behind a net of the same text", x, x::restore, CarryAlike.STATE);
    x.image();
    check.due("restore() of a new image", x.restore(), 0);
  }

  private static void count() {
    CarryAlike x = Check.withNet("01=,12,23=,30=;w");
    Check.walker(x, 0, 0, 0, 1, "1");
    Check.walker(x, 0, 5, 5, 2, "");
    Check.walker(x, 0, 2, 3, 3, "3");
    int[] due = {4, 3, 3, 2, 0, 0, 1, 0, 0, 1};
    counts(x, due);
    x.minutes(4);
    Check.write(x, "8");
    x.soonest(0);
    x.wider(0);
    counts(x, new int[] {4, 3, 3, 2, 4, 1, 1, 2, 0, 1});
    x.blank();
    Check.write(x, "01;d");
    x.net();
    counts(x, new int[] {1, 0, 0, 0, 0, 0, 2, 2, 1, 0});
    check.refused("count(10)", x, () -> x.count(10), CarryAlike.OUTSIDE);
    check.refused("count(-1)", x, () -> x.count(-1), CarryAlike.OUTSIDE);
  }

  private static void counts(CarryAlike x, int[] due) {
    for (int what = 0; what < due.length; what++) {
      check.due("count(" + what + ")", x.count(what), due[what]);
    }
  }

  private static long digestOf(long... numbers) {
    long h = 617;
    for (long number : numbers) {
      h = 31 * h + number;
    }
    return h;
  }

  private static void digestOfANewObject() {
    CarryAlike x = new CarryAlike();
    check.due("digest() of a new object", x.digest(), digestOf(-1, -1, -1, 1, 0, 0, 0, 0, 0, 0, 0, 0, 0, 0));
    Check.write(x, "~8");
    check.due("digest() with two letters", x.digest(), digestOf(-1, -1, -1, 1, 126, 56, 0, 0, 0, 0, 0, 2, 0, 0, 0, 0));
  }

  private static void digestNumberByNumber() {
    CarryAlike x = Check.withNet("10,12=;d");
    x.heap(6, 77);
    check.due("digest() of a net", x.digest(), digestOf(1, 0, 0, 1, 2, 1, 0, 0, 0, 0, 0, 0, 77, 0,
        -1, -1, -1, 1, 2, 1, 0, 0, 0, 0, 1, 0, 1, 0));
    Check.walker(x, 0, 0, 1, 3, "12");
    Check.walker(x, 2, 1, 5, 4, "0");
    x.walker(1, 7, 7, 6);
    x.walker(3, 4, 4, 12);
    Check.write(x, "z");
    check.due("digest() with walkers", x.digest(), digestOf(1, 0, 0, 1, 2, 1,
        0, 0, 1, 3, 3, 2, 1, 0, 1, 0, 11,
        2, 1, 5, 4, 11, 1, 0, 0, 0, 0, CarryAlike.NONE,
        1, 7, 7, 6, 6, 0, -1, 1, 0, 1, 0,
        3, 4, 4, 12, 12, 0, -1, 0, 0, 1, 0,
        0, 0, 0, 0, 0, 0, 77, 0,
        1, 0, 1, fitting(), 122,
        2, 1, 4, 2, 0, 1, 1, 0, 1, 0));
  }

  /** Of 0 and the bride: alike at 7, 8, 9; the bride twice as much at 8, 10, 12, 14, 16; the third one is free. */
  private static long fitting() {
    return 10 * (3 + 5);
  }
}
