/** What the document says of WALKERS, of passing, of HEAPS and of promises 7 to 14 at their edges: a test for each sentence. */
public final class EdgesOfWalkersTest {
  private static final Check check = new Check("EdgesOfWalkersTest");
  private static final int NONE = CarryAlike.NONE, UNKNOWN = CarryAlike.UNKNOWN, OUTSIDE = CarryAlike.OUTSIDE;
  private static final int STATE = CarryAlike.STATE, FULL = CarryAlike.FULL;
  private static final int MIN = Integer.MIN_VALUE, MAX = Integer.MAX_VALUE;
  private static final int WALKER = 0, PORTER = 1, BRIDE = 2, WISE = 3;

  private static final Twins nothing = new Twins(check, "nothing", Twins::nothing);
  private static final Twins netAlone = new Twins(check, "a net alone", Twins::netAlone);
  private static final Twins three = new Twins(check, "three on their ways", Twins::threeOnTheirWays);
  private static final Twins five = new Twins(check, "five and a full page", Twins::fiveAndAFullPage);

  public static void main(String[] args) {
    walkerOfEachLeastAndGreatest();
    walkerRefusals();
    walkerFull();
    aboutUnknownAndOutside();
    aboutOfAWayFromItsBeginningToItsEnd();
    aboutOfWhatABrideCarries();
    asOfEachKind();
    asUnknownAndOutside();
    wayOfOneToTwentyDigits();
    wayIsNone();
    wayNotJoined();
    wayUnknownAheadOfState();
    wayInsteadOfAnother();
    loadOfNoneToTwenty();
    loadUnknownAndOutside();
    passOfAllLoads();
    passOfTheSameOrNobody();
    heapOfEachCorner();
    heapRefusals();
    takeTwentyEachWay();
    takeToTheEdgesOfALoad();
    takeToTheEdgesOfAHeap();
    takeOfNoPorter();
    takeRefusals();
    takeWhereItIs();
    check.end();
  }

  // ---- promise 7

  private static void walkerOfEachLeastAndGreatest() {
    for (int kind = WALKER; kind <= WISE; kind++) {
      for (int corner = 0; corner <= 7; corner += 7) {
        for (int load = 0; load <= 20; load += 20) {
          CarryAlike x = Check.withNet("01");
          check.due("walker()", x.walker(kind, corner, 7 - corner, load), 0);
          int[] due = {kind, corner, 7 - corner, load, kind == BRIDE ? load + 7 : load, 0, NONE};
          for (int what = 0; what <= 6; what++) {
            check.due("about(0, " + what + ") of kind " + kind, x.about(0, what), due[what]);
          }
        }
      }
    }
  }

  /** Each one alone, and of several the first. */
  private static void walkerRefusals() {
    netAlone.refusedFor("walker, corner", (x, number) -> x.walker(0, number, 0, 0), UNKNOWN, MIN, -1, 8, MAX);
    netAlone.refusedFor("walker, goal", (x, number) -> x.walker(0, 0, number, 0), UNKNOWN, MIN, -1, 8, MAX);
    netAlone.refusedFor("walker, kind", (x, number) -> x.walker(number, 0, 0, 0), OUTSIDE, MIN, -1, 4, MAX);
    netAlone.refusedFor("walker, load", (x, number) -> x.walker(0, 0, 0, number), OUTSIDE, MIN, -1, 21, MAX);
    nothing.refused("walker", x -> x.walker(0, 0, 0, 0), STATE);
    five.refused("walker", x -> x.walker(0, 0, 0, 0), FULL);
    for (Twins twins : new Twins[] {nothing, netAlone, three, five}) {
      twins.refused("walker, all wrong", x -> x.walker(4, 8, 8, 21), UNKNOWN);
      twins.refused("walker, corner and kind", x -> x.walker(-1, -1, 0, 0), UNKNOWN);
      twins.refused("walker, corner and load", x -> x.walker(0, 8, 0, 21), UNKNOWN);
      twins.refused("walker, goal and kind", x -> x.walker(4, 0, 8, 0), UNKNOWN);
      twins.refused("walker, goal and load", x -> x.walker(0, 0, -1, -1), UNKNOWN);
      twins.refused("walker, corner", x -> x.walker(0, 8, 0, 0), UNKNOWN);
      twins.refused("walker, goal", x -> x.walker(0, 0, 8, 0), UNKNOWN);
      twins.refused("walker, kind", x -> x.walker(4, 0, 0, 0), OUTSIDE);
      twins.refused("walker, load", x -> x.walker(0, 0, 0, 21), OUTSIDE);
    }
  }

  private static void walkerFull() {
    CarryAlike x = Check.withNet("01");
    x.image();
    for (int number = 0; number < 5; number++) {
      check.due("walker() to be " + number, x.walker(number % 4, 0, 0, 0), number);
      check.due("count(2)", x.count(2), number + 1);
    }
    check.due("a sixth one", x.walker(0, 0, 0, 0), FULL);
    x.restore();
    check.due("none came before the image", x.count(2), 0);
    check.due("there is room again", x.walker(0, 0, 0, 0), 0);
  }

  // ---- promise 8

  private static void aboutUnknownAndOutside() {
    for (int what = 0; what <= 6; what++) {
      int asked = what;
      nothing.refused("about(0, " + what + ")", x -> x.about(0, asked), UNKNOWN);
      netAlone.refused("about(0, " + what + ")", x -> x.about(0, asked), UNKNOWN);
      three.refusedFor("about, " + what, (x, number) -> x.about(number, asked), UNKNOWN, MIN, -1, 3, MAX);
      five.refused("about(5, " + what + ")", x -> x.about(5, asked), UNKNOWN);
    }
    five.refusedFor("about(4)", (x, number) -> x.about(4, number), OUTSIDE, MIN, -1, 7, MAX);
    five.refused("about, UNKNOWN ahead of OUTSIDE", x -> x.about(5, 7), UNKNOWN);
    five.refused("about, UNKNOWN ahead of OUTSIDE", x -> x.about(-1, -1), UNKNOWN);
  }

  private static void aboutOfAWayFromItsBeginningToItsEnd() {
    CarryAlike x = Check.withNet("01");
    x.walker(0, 0, 0, 0);
    check.due("corners left without a way", x.about(0, 5), 0);
    check.due("the next one without a way", x.about(0, 6), NONE);
    Check.way(x, 0, "01010101010101010101");
    for (int gone = 0; gone < 20; gone++) {
      check.due("corners left behind " + gone, x.about(0, 5), 20 - gone);
      check.due("the next one behind " + gone, x.about(0, 6), gone % 2);
      x.minutes(1);
      check.due("where it is then", x.about(0, 1), gone % 2);
    }
    for (int more = 0; more < 2; more++) {
      check.due("corners left at the end", x.about(0, 5), 0);
      check.due("the next one at the end", x.about(0, 6), NONE);
      check.due("where it stays", x.about(0, 1), 1);
      x.minutes(60);
    }
  }

  private static void aboutOfWhatABrideCarries() {
    CarryAlike x = Check.withNet("01");
    for (int kind = WALKER; kind <= WISE; kind++) {
      x.walker(kind, 0, 0, 0);
      check.due("none of kind " + kind, x.about(kind, 4), kind == BRIDE ? 7 : 0);
      x.load(kind, 20);
      check.due("most of kind " + kind, x.about(kind, 4), kind == BRIDE ? 27 : 20);
      check.due("its LOAD is told without", x.about(kind, 3), 20);
    }
  }

  // ---- promise 9

  private static void asOfEachKind() {
    boolean[][] is = {{true, false, false, false}, {true, true, false, false}, {true, false, true, false}, {true, true, false, true}};
    for (int kind = WALKER; kind <= WISE; kind++) {
      CarryAlike x = Check.withNet("01");
      for (int number = 0; number < 5; number++) {
        x.walker(kind, 0, 0, 0);
        for (int asked = WALKER; asked <= WISE; asked++) {
          check.due("as(" + number + ", " + asked + ") of kind " + kind, x.as(number, asked), is[kind][asked] ? number : NONE);
        }
      }
    }
  }

  private static void asUnknownAndOutside() {
    nothing.refused("as(0, 0)", x -> x.as(0, 0), UNKNOWN);
    three.refusedFor("as", (x, number) -> x.as(number, 0), UNKNOWN, MIN, -1, 3, 5, MAX);
    five.refusedFor("as", (x, number) -> x.as(number, 3), UNKNOWN, -1, 5);
    five.refusedFor("as(3)", (x, number) -> x.as(3, number), OUTSIDE, MIN, -1, 4, MAX);
    five.refused("as, UNKNOWN ahead of OUTSIDE", x -> x.as(5, 4), UNKNOWN);
    five.refused("as, UNKNOWN ahead of OUTSIDE", x -> x.as(-1, -1), UNKNOWN);
  }

  // ---- promise 10

  private static Twins withPage(String net, int corner, String page) {
    return new Twins(check, net + " at " + corner + " and " + page, x -> {
      Check.write(x, net);
      x.net();
      Check.walker(x, 0, corner, 0, 0, "" + corner + corner);
      Check.write(x, page);
    });
  }

  private static void wayOfOneToTwentyDigits() {
    String twenty = "01010101011111111110";
    for (int many = 1; many <= 20; many++) {
      CarryAlike x = Check.withNet("01");
      x.walker(0, 1, 0, 0);
      Check.write(x, twenty.substring(0, many));
      check.due("way(0) of " + many, x.way(0), many);
      check.due("about(0, 5)", x.about(0, 5), many);
      check.due("the page is empty then", x.count(5), 0);
      x.minutes(many);
      check.due("where it is at the end", x.about(0, 1), twenty.charAt(many - 1) - '0');
    }
    withPage("01", 1, twenty + "0").refused("way(0) of 21", x -> x.way(0), STATE);
    withPage("01", 1, twenty + twenty + "0101010101").refused("way(0) of 50", x -> x.way(0), STATE);
  }

  private static void wayIsNone() {
    withPage("01", 0, "").refused("way(0) of an empty page", x -> x.way(0), STATE);
    for (String none : new String[] {"8", "9", "/", "x", "1x", "1,", "18", "10=", " 1", "1 "}) {
      withPage("01", 0, none).refused("way(0)", x -> x.way(0), STATE);
    }
  }

  /** The first CORNER from where it is, each other one from that before it. */
  private static void wayNotJoined() {
    for (String none : new String[] {"2", "3", "7", "02", "12", "0103", "01010101010101010102"}) {
      withPage("01,23,31=", 0, none).refused("way(0)", x -> x.way(0), STATE);
    }
    withPage("01,23,31=", 7, "0").refused("way(0)", x -> x.way(0), STATE);
    check.due("way(0) by lanes as told, against them, wide ones", withPage("01,23,31=", 0, "0132310").another().way(0), 7);
    check.due("way(0) to stay where no lane is", withPage("01,23,31=", 7, "7777").another().way(0), 4);
  }

  private static void wayUnknownAheadOfState() {
    nothing.refused("way(0)", x -> x.way(0), UNKNOWN);
    netAlone.refusedFor("way", CarryAlike::way, UNKNOWN, MIN, -1, 0, MAX);
    three.refusedFor("way", CarryAlike::way, UNKNOWN, MIN, -1, 3, 4, 5, MAX);
    five.refusedFor("way", CarryAlike::way, UNKNOWN, MIN, -1, 5, MAX);
    for (String page : new String[] {"0", "1", "2", "x", ""}) {
      withPage("01", 0, page).refusedFor("way", CarryAlike::way, UNKNOWN, -1, 1);
    }
  }

  private static void wayInsteadOfAnother() {
    CarryAlike x = Check.withNet("01,12");
    Check.walker(x, 0, 0, 0, 0, "12101210121012101210");
    x.minutes(1);
    Check.way(x, 0, "2");
    check.due("corners left", x.about(0, 5), 1);
    x.minutes(2);
    check.due("where it is at the end", x.about(0, 1), 2);
    check.due("corners left", x.about(0, 5), 0);
    Check.write(x, "12");
    check.due("way(0) against the lanes as told", x.way(0), 2);
    Check.write(x, "2");
    check.due("way(0) where it is", x.way(0), 1);
    check.due("the next one", x.about(0, 6), 2);
  }

  // ---- promise 11

  private static void loadOfNoneToTwenty() {
    CarryAlike x = Check.withNet("01");
    for (int kind = WALKER; kind <= WISE; kind++) {
      x.walker(kind, 0, 0, 20);
      for (int v = 0; v <= 20; v++) {
        check.due("load(" + kind + ", " + v + ")", x.load(kind, v), v == 0 ? 20 : v - 1);
        check.due("about(" + kind + ", 3)", x.about(kind, 3), v);
      }
    }
  }

  private static void loadUnknownAndOutside() {
    nothing.refused("load(0, 0)", x -> x.load(0, 0), UNKNOWN);
    three.refusedFor("load", (x, number) -> x.load(number, 9), UNKNOWN, MIN, -1, 3, 5, MAX);
    three.refusedFor("load(0)", (x, number) -> x.load(0, number), OUTSIDE, MIN, -1, 21, MAX);
    three.refusedFor("load(1), of a bride", (x, number) -> x.load(1, number), OUTSIDE, -1, 21);
    five.refused("load, UNKNOWN ahead of OUTSIDE", x -> x.load(5, 21), UNKNOWN);
    five.refused("load, UNKNOWN ahead of OUTSIDE", x -> x.load(-1, -1), UNKNOWN);
  }

  // ---- promise 12

  /** All LOADS of all KINDS by all laws, none and most of them too. */
  private static void passOfAllLoads() {
    for (int law = 0; law < 4; law++) {
      for (int kinds = 0; kinds < 16; kinds++) {
        for (int load = 0; load <= 20; load++) {
          CarryAlike x = Check.withNet("01" + new String[] {"", ";d", ";w", ";dw"}[law]);
          x.walker(kinds / 4, 3, 0, load);
          x.walker(kinds % 4, 5, 0, 0);
          passOfOneLoad(x, law, kinds / 4, kinds % 4, load);
        }
      }
    }
  }

  private static void passOfOneLoad(CarryAlike x, int law, int oneKind, int otherKind, int load) {
    int one = oneKind == BRIDE ? load + 7 : load;
    for (int v = 0; v <= 20; v++) {
      int other = otherKind == BRIDE ? v + 7 : v;
      boolean may = one == other;
      may |= law % 2 == 1 && (one == other + other || other == one + one);
      may |= law >= 2 && one * other == 0;
      may |= oneKind == WISE && other == 0;
      may |= otherKind == WISE && one == 0;
      x.load(1, v);
      check.due("pass(0, 1) of kinds " + oneKind + otherKind + ", loads " + load + ", " + v + ", law " + law, x.pass(0, 1), may ? 1 : 0);
      check.due("pass(1, 0) of kinds " + oneKind + otherKind + ", loads " + load + ", " + v + ", law " + law, x.pass(1, 0), may ? 1 : 0);
    }
  }

  private static void passOfTheSameOrNobody() {
    nothing.refused("pass(0, 1)", x -> x.pass(0, 1), UNKNOWN);
    for (int walker = 0; walker < 3; walker++) {
      int one = walker;
      three.refused("pass of the same", x -> x.pass(one, one), UNKNOWN);
      three.refusedFor("pass(" + one + ")", (x, number) -> x.pass(one, number), UNKNOWN, MIN, -1, 3, 5, MAX);
      three.refusedFor("pass to " + one, (x, number) -> x.pass(number, one), UNKNOWN, MIN, -1, 3, 5, MAX);
    }
    three.refused("pass of the same nobody", x -> x.pass(-1, -1), UNKNOWN);
    five.refused("pass(4, 5)", x -> x.pass(4, 5), UNKNOWN);
    five.refused("pass(4, 4)", x -> x.pass(4, 4), UNKNOWN);
  }

  // ---- promise 13

  private static void heapOfEachCorner() {
    CarryAlike x = Check.withNet("01");
    for (int corner = 0; corner <= 7; corner++) {
      check.due("heap(" + corner + ", 99), 0 at first", x.heap(corner, 99), 0);
    }
    for (int corner = 0; corner <= 7; corner++) {
      check.due("heap(" + corner + ", 0)", x.heap(corner, 0), 99);
      check.due("heap(" + corner + ", 1)", x.heap(corner, 1), 0);
    }
  }

  /** Each one alone, and of several the first. */
  private static void heapRefusals() {
    for (Twins twins : new Twins[] {nothing, netAlone, three}) {
      twins.refusedFor("heap, corner", (x, number) -> x.heap(number, 1), UNKNOWN, MIN, -1, 8, MAX);
      twins.refusedFor("heap, corner and v", (x, number) -> x.heap(number, 100), UNKNOWN, -1, 8);
      twins.refusedFor("heap(2)", (x, number) -> x.heap(2, number), OUTSIDE, MIN, -1, 100, MAX);
    }
    nothing.refusedFor("heap", (x, number) -> x.heap(number, 99), STATE, 0, 7);
  }

  // ---- promise 14

  private static CarryAlike porter(int kind, int load, int heap) {
    CarryAlike x = Check.withNet("01");
    x.walker(kind, 5, 0, load);
    x.heap(5, heap);
    x.heap(0, 50);
    return x;
  }

  private static void takes(int load, int heap, int pounds) {
    for (int kind = PORTER; kind <= WISE; kind += 2) {
      CarryAlike x = porter(kind, load, heap);
      check.due("take(0, " + pounds + ") with " + load + " of " + heap, x.take(0, pounds), load + pounds);
      check.due("its LOAD", x.about(0, 3), load + pounds);
      check.due("the heap", x.heap(5, 0), heap - pounds);
      check.due("another heap", x.heap(0, 0), 50);
    }
  }

  private static void takesNot(int kind, int load, int heap, int pounds) {
    Twins twins = new Twins(check, "kind " + kind + ", load " + load + ", heap " + heap, x -> {
      Check.write(x, "01");
      x.net();
      x.walker(kind, 5, 0, load);
      x.heap(5, heap);
    });
    twins.refused("take(0, " + pounds + ")", x -> x.take(0, pounds), STATE);
  }

  private static void takeTwentyEachWay() {
    takes(0, 99, 20);
    takes(0, 20, 20);
    takes(20, 0, -20);
    takes(20, 79, -20);
    takes(7, 7, 0);
    takes(0, 0, 0);
    takes(20, 99, 0);
  }

  private static void takeToTheEdgesOfALoad() {
    for (int load = 0; load <= 20; load++) {
      takes(load, 50, 20 - load);
      takes(load, 50, -load);
      if (load > 0) {
        takesNot(PORTER, load, 50, 21 - load);
        takesNot(WISE, load, 50, 20);
      }
      if (load < 20) {
        takesNot(PORTER, load, 50, -load - 1);
        takesNot(WISE, load, 50, -20);
      }
    }
  }

  private static void takeToTheEdgesOfAHeap() {
    for (int pounds = 1; pounds <= 20; pounds++) {
      takes(0, pounds, pounds);
      takesNot(PORTER, 0, pounds - 1, pounds);
      takes(20, 99 - pounds, -pounds);
      takesNot(PORTER, 20, 100 - pounds, -pounds);
    }
    takesNot(PORTER, 10, 0, 1);
    takesNot(PORTER, 10, 99, -1);
  }

  private static void takeOfNoPorter() {
    for (int pounds : new int[] {-1, 0, 1}) {
      takesNot(WALKER, 5, 5, pounds);
      takesNot(BRIDE, 5, 5, pounds);
    }
  }

  /** Each one alone, and of several the first. */
  private static void takeRefusals() {
    nothing.refused("take(0, 0)", x -> x.take(0, 0), UNKNOWN);
    three.refusedFor("take", (x, number) -> x.take(number, 0), UNKNOWN, MIN, -1, 3, 5, MAX);
    three.refused("take, UNKNOWN ahead of OUTSIDE", x -> x.take(3, 21), UNKNOWN);
    three.refused("take, UNKNOWN ahead of OUTSIDE", x -> x.take(-1, -21), UNKNOWN);
    three.refusedFor("take(0)", (x, number) -> x.take(0, number), OUTSIDE, MIN, -21, 21, MAX);
    three.refusedFor("take(1), OUTSIDE ahead of STATE", (x, number) -> x.take(1, number), OUTSIDE, MIN, -21, 21, MAX);
    three.refusedFor("take(1), of a bride", (x, number) -> x.take(1, number), STATE, -20, 0, 20);
  }

  private static void takeWhereItIs() {
    CarryAlike x = Check.withNet("05");
    Check.walker(x, PORTER, 5, 0, 0, "0");
    x.heap(0, 20);
    check.due("the heap where it is is empty", x.take(0, 1), STATE);
    x.minutes(1);
    check.due("where it is now it takes", x.take(0, 20), 20);
    check.due("nothing is left", x.heap(0, 0), 0);
  }
}
