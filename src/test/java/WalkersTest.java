/** Promises 7 to 14: walker, about, as, way, load, pass, heap, take. */
public final class WalkersTest {
  private static final Check check = new Check("WalkersTest");

  public static void main(String[] args) {
    walker();
    about();
    as();
    way();
    load();
    passByLoads();
    passByLaw();
    passOfTheWise();
    heap();
    take();
    check.end();
  }

  private static void walker() {
    CarryAlike x = new CarryAlike();
    check.refused("walker without a net", x, () -> x.walker(0, 0, 0, 0), CarryAlike.STATE);
    check.refused("UNKNOWN ahead of all", x, () -> x.walker(9, 8, 0, 99), CarryAlike.UNKNOWN);
    check.refused("OUTSIDE ahead of STATE", x, () -> x.walker(4, 0, 0, 0), CarryAlike.OUTSIDE);
    Check.write(x, "01");
    x.net();
    check.refused("walker(0, 8, 0, 0)", x, () -> x.walker(0, 8, 0, 0), CarryAlike.UNKNOWN);
    check.refused("walker(0, -1, 0, 0)", x, () -> x.walker(0, -1, 0, 0), CarryAlike.UNKNOWN);
    check.refused("walker(0, 0, 8, 0)", x, () -> x.walker(0, 0, 8, 0), CarryAlike.UNKNOWN);
    check.refused("walker(0, 0, -1, 0)", x, () -> x.walker(0, 0, -1, 0), CarryAlike.UNKNOWN);
    check.refused("walker(4, 0, 0, 0)", x, () -> x.walker(4, 0, 0, 0), CarryAlike.OUTSIDE);
    check.refused("walker(-1, 0, 0, 0)", x, () -> x.walker(-1, 0, 0, 0), CarryAlike.OUTSIDE);
    check.refused("walker(0, 0, 0, 21)", x, () -> x.walker(0, 0, 0, 21), CarryAlike.OUTSIDE);
    check.refused("walker(0, 0, 0, -1)", x, () -> x.walker(0, 0, 0, -1), CarryAlike.OUTSIDE);
    for (int number = 0; number < 5; number++) {
      check.due("walker, so far from all lanes", x.walker(number % 4, 7 - number, number, 5 * number), number);
    }
    check.refused("a sixth walker", x, () -> x.walker(0, 0, 0, 0), CarryAlike.FULL);
    check.refused("OUTSIDE ahead of FULL", x, () -> x.walker(0, 0, 0, 21), CarryAlike.OUTSIDE);
    check.due("the last one's load", x.about(4, 3), 20);
  }

  private static void about() {
    CarryAlike x = Check.withNet("01,12");
    Check.walker(x, 2, 0, 7, 4, "012");
    Check.walker(x, 3, 1, 6, 20, "");
    int[][] due = {{2, 0, 7, 4, 11, 3, 0}, {3, 1, 6, 20, 20, 0, CarryAlike.NONE}};
    abouts(x, due);
    x.minutes(2);
    abouts(x, new int[][] {{2, 1, 7, 4, 11, 1, 2}, {3, 1, 6, 20, 20, 0, CarryAlike.NONE}});
    x.minutes(1);
    abouts(x, new int[][] {{2, 2, 7, 4, 11, 0, CarryAlike.NONE}});
    check.refused("about(2, 0)", x, () -> x.about(2, 0), CarryAlike.UNKNOWN);
    check.refused("about(-1, 0)", x, () -> x.about(-1, 0), CarryAlike.UNKNOWN);
    check.refused("about(0, 7)", x, () -> x.about(0, 7), CarryAlike.OUTSIDE);
    check.refused("about(0, -1)", x, () -> x.about(0, -1), CarryAlike.OUTSIDE);
    check.refused("about(2, 7)", x, () -> x.about(2, 7), CarryAlike.UNKNOWN);
  }

  private static void abouts(CarryAlike x, int[][] due) {
    for (int walker = 0; walker < due.length; walker++) {
      for (int what = 0; what < due[walker].length; what++) {
        check.due("about(" + walker + ", " + what + ")", x.about(walker, what), due[walker][what]);
      }
    }
  }

  private static void as() {
    CarryAlike x = Check.withNet("01");
    int none = CarryAlike.NONE;
    int[] kinds = {3, 2, 1, 0};
    int[][] due = {{0, 0, none, 0}, {1, none, 1, none}, {2, 2, none, none}, {3, none, none, none}};
    for (int walker = 0; walker < 4; walker++) {
      x.walker(kinds[walker], 0, 0, 0);
      for (int kind = 0; kind < 4; kind++) {
        check.due("as(" + walker + ", " + kind + ")", x.as(walker, kind), due[walker][kind]);
      }
    }
    check.refused("as(4, 0)", x, () -> x.as(4, 0), CarryAlike.UNKNOWN);
    check.refused("as(-1, 0)", x, () -> x.as(-1, 0), CarryAlike.UNKNOWN);
    check.refused("as(0, 4)", x, () -> x.as(0, 4), CarryAlike.OUTSIDE);
    check.refused("as(0, -1)", x, () -> x.as(0, -1), CarryAlike.OUTSIDE);
    check.refused("as(4, 4)", x, () -> x.as(4, 4), CarryAlike.UNKNOWN);
  }

  private static void way() {
    CarryAlike x = Check.withNet("01,12,23=");
    x.walker(0, 1, 3, 2);
    check.refused("way(0) of an empty page", x, () -> x.way(0), CarryAlike.STATE);
    check.refused("way(1)", x, () -> x.way(1), CarryAlike.UNKNOWN);
    for (String none : new String[] {"3", "13", "0103", "2x", "28", "21,", "111111111111111111111"}) {
      x.blank();
      Check.write(x, none);
      check.refused("way(0) of " + none, x, () -> x.way(0), CarryAlike.STATE);
      check.refused("way(1) of " + none, x, () -> x.way(1), CarryAlike.UNKNOWN);
      check.refused("way(-1) of " + none, x, () -> x.way(-1), CarryAlike.UNKNOWN);
    }
    for (String some : new String[] {"1", "0", "2", "1223", "01210", "11111111111111111112"}) {
      x.blank();
      Check.write(x, some);
      check.due("way(0) of " + some, x.way(0), some.length());
      check.due("corners left", x.about(0, 5), some.length());
      check.due("the next one", x.about(0, 6), some.charAt(0) - '0');
      check.due("the page is empty", x.count(5), 0);
    }
    x.minutes(20);
    check.due("where it is behind twenty minutes", x.about(0, 1), 2);
    Check.write(x, "3");
    check.due("a way from where it is now", x.way(0), 1);
    x.minutes(1);
    check.due("where it is then", x.about(0, 1), 3);
    halfAWayIsGone();
  }

  private static void halfAWayIsGone() {
    CarryAlike x = Check.withNet("01,12,23");
    Check.walker(x, 0, 0, 3, 2, "123");
    x.minutes(1);
    Check.write(x, "2");
    check.due("way(0) on the way", x.way(0), 1);
    check.due("corners left", x.about(0, 5), 1);
    x.minutes(5);
    check.due("where it is", x.about(0, 1), 2);
  }

  private static void load() {
    CarryAlike x = Check.withNet("01");
    x.walker(2, 0, 0, 3);
    check.due("load(0, 20)", x.load(0, 20), 3);
    check.due("load(0, 0)", x.load(0, 0), 20);
    check.due("load(0, 5)", x.load(0, 5), 0);
    check.due("its load", x.about(0, 3), 5);
    check.due("what it carries", x.about(0, 4), 12);
    check.refused("load(1, 0)", x, () -> x.load(1, 0), CarryAlike.UNKNOWN);
    check.refused("load(-1, 0)", x, () -> x.load(-1, 0), CarryAlike.UNKNOWN);
    check.refused("load(0, 21)", x, () -> x.load(0, 21), CarryAlike.OUTSIDE);
    check.refused("load(0, -1)", x, () -> x.load(0, -1), CarryAlike.OUTSIDE);
    check.refused("load(1, 21)", x, () -> x.load(1, 21), CarryAlike.UNKNOWN);
  }

  private static void passes(CarryAlike x, int first, int second, int due) {
    x.load(0, first);
    x.load(1, second);
    check.due("pass(0, 1) with " + first + ", " + second, x.pass(0, 1), due);
    check.due("pass(1, 0) with " + first + ", " + second, x.pass(1, 0), due);
  }

  private static void passByLoads() {
    CarryAlike x = Check.withNet("01");
    x.walker(0, 0, 0, 0);
    x.walker(1, 5, 0, 0);
    passes(x, 0, 0, 1);
    passes(x, 7, 7, 1);
    passes(x, 3, 6, 0);
    passes(x, 0, 6, 0);
    check.refused("pass(0, 0)", x, () -> x.pass(0, 0), CarryAlike.UNKNOWN);
    check.refused("pass(0, 2)", x, () -> x.pass(0, 2), CarryAlike.UNKNOWN);
    check.refused("pass(2, 0)", x, () -> x.pass(2, 0), CarryAlike.UNKNOWN);
    check.refused("pass(-1, 0)", x, () -> x.pass(-1, 0), CarryAlike.UNKNOWN);
    check.refused("pass(0, -1)", x, () -> x.pass(0, -1), CarryAlike.UNKNOWN);
    x.walker(2, 0, 0, 0);
    x.load(0, 7);
    check.due("7 and a bride with none", x.pass(0, 2), 1);
    x.load(0, 0);
    check.due("none and a bride with none", x.pass(0, 2), 0);
  }

  private static void passByLaw() {
    CarryAlike d = Check.withNet("01;d");
    d.walker(0, 0, 0, 0);
    d.walker(0, 0, 0, 0);
    passes(d, 3, 6, 1);
    passes(d, 20, 10, 1);
    passes(d, 3, 7, 0);
    passes(d, 0, 1, 0);
    d.walker(2, 0, 0, 3);
    check.due("20 and a bride with 3", d.pass(0, 2), 0);
    d.load(0, 5);
    check.due("5 and a bride with 3", d.pass(0, 2), 1);
    CarryAlike w = Check.withNet("01;w");
    w.walker(0, 0, 0, 0);
    w.walker(0, 0, 0, 0);
    passes(w, 0, 9, 1);
    passes(w, 3, 6, 0);
    passes(w, 1, 2, 0);
    w.walker(2, 0, 0, 0);
    w.load(0, 1);
    check.due("1 and a bride with none", w.pass(0, 2), 0);
    w.load(0, 0);
    check.due("none and a bride with none", w.pass(0, 2), 1);
    CarryAlike both = Check.withNet("01;dw");
    both.walker(0, 0, 0, 0);
    both.walker(0, 0, 0, 0);
    passes(both, 0, 9, 1);
    passes(both, 4, 8, 1);
    passes(both, 4, 9, 0);
  }

  private static void passOfTheWise() {
    CarryAlike x = Check.withNet("01");
    x.walker(3, 0, 0, 4);
    x.walker(0, 0, 0, 0);
    passes(x, 4, 0, 1);
    passes(x, 0, 4, 0);
    passes(x, 4, 5, 0);
    x.walker(1, 0, 0, 0);
    x.load(1, 9);
    check.due("a porter is not wise", x.pass(1, 2), 0);
    x.walker(3, 0, 0, 6);
    x.load(0, 0);
    check.due("of two wise ones one with none", x.pass(0, 3), 1);
  }

  private static void heap() {
    CarryAlike x = new CarryAlike();
    check.refused("heap without a net", x, () -> x.heap(0, 0), CarryAlike.STATE);
    check.refused("UNKNOWN ahead of all", x, () -> x.heap(8, 100), CarryAlike.UNKNOWN);
    check.refused("OUTSIDE ahead of STATE", x, () -> x.heap(0, 100), CarryAlike.OUTSIDE);
    Check.write(x, "01");
    x.net();
    for (int corner = 0; corner < 8; corner++) {
      check.due("heap(" + corner + ", 99)", x.heap(corner, 99), 0);
      check.due("heap(" + corner + ", " + corner + ")", x.heap(corner, corner), 99);
    }
    check.due("heap(7, 0)", x.heap(7, 0), 7);
    check.refused("heap(8, 0)", x, () -> x.heap(8, 0), CarryAlike.UNKNOWN);
    check.refused("heap(-1, 0)", x, () -> x.heap(-1, 0), CarryAlike.UNKNOWN);
    check.refused("heap(0, 100)", x, () -> x.heap(0, 100), CarryAlike.OUTSIDE);
    check.refused("heap(0, -1)", x, () -> x.heap(0, -1), CarryAlike.OUTSIDE);
  }

  private static void take() {
    CarryAlike x = Check.withNet("01");
    x.walker(1, 1, 0, 5);
    x.walker(3, 1, 0, 0);
    x.walker(2, 1, 0, 5);
    x.walker(0, 1, 0, 5);
    x.heap(1, 30);
    check.due("a porter takes", x.take(0, 15), 20);
    check.due("its load", x.about(0, 3), 20);
    check.due("the heap is less", x.heap(1, 15), 15);
    check.due("a wise one takes", x.take(1, 15), 15);
    check.due("nothing is left", x.heap(1, 0), 0);
    check.due("it lays down", x.take(1, -15), 0);
    check.due("the heap is more", x.heap(1, 15), 15);
    check.due("nothing at all", x.take(0, 0), 20);
    check.refused("a bride takes", x, () -> x.take(2, 1), CarryAlike.STATE);
    check.refused("a walker takes", x, () -> x.take(3, 0), CarryAlike.STATE);
    check.refused("above 20", x, () -> x.take(0, 1), CarryAlike.STATE);
    check.refused("below none", x, () -> x.take(1, -1), CarryAlike.STATE);
    check.refused("more than there is", x, () -> x.take(1, 16), CarryAlike.STATE);
    x.heap(1, 80);
    check.refused("more than 99", x, () -> x.take(0, -20), CarryAlike.STATE);
    check.due("just 99", x.take(0, -19), 1);
    check.due("the heap", x.heap(1, 99), 99);
    x.load(0, 0);
    check.due("twenty at once", x.take(0, 20), 20);
    check.due("twenty back", x.take(0, -20), 0);
    x.load(0, 1);
    check.refused("take(4, 0)", x, () -> x.take(4, 0), CarryAlike.UNKNOWN);
    check.refused("take(-1, 0)", x, () -> x.take(-1, 0), CarryAlike.UNKNOWN);
    check.refused("take(0, 21)", x, () -> x.take(0, 21), CarryAlike.OUTSIDE);
    check.refused("take(0, -21)", x, () -> x.take(0, -21), CarryAlike.OUTSIDE);
    check.refused("OUTSIDE ahead of STATE", x, () -> x.take(3, 21), CarryAlike.OUTSIDE);
    check.refused("UNKNOWN ahead of OUTSIDE", x, () -> x.take(4, 21), CarryAlike.UNKNOWN);
    Check.way(x, 0, "0");
    x.minutes(1);
    check.refused("the heap where it is now", x, () -> x.take(0, 1), CarryAlike.STATE);
  }
}
