import java.util.ArrayList;
import java.util.List;

/** Objects of one past: a call that is refused to one must leave it like its twin, in all that later calls tell. */
final class Twins {
  private static final int MINUTES_TO_THE_END = 21;

  interface Past {
    void befalls(CarryAlike x);
  }

  interface Call {
    int on(CarryAlike x);
  }

  private final Check check;
  private final String state;
  private final Past past;
  private final List<Long> due;

  Twins(Check check, String state, Past past) {
    this.check = check;
    this.state = state;
    this.past = past;
    due = everything(another());
  }

  CarryAlike another() {
    CarryAlike x = new CarryAlike();
    past.befalls(x);
    return x;
  }

  void refused(String call, Call refused, long want) {
    CarryAlike x = another();
    check.due(call + " with " + state, refused.on(x), want);
    List<Long> told = everything(x);
    int same = 0;
    while (same < due.size() - 1 && told.get(same).equals(due.get(same))) {
      same++;
    }
    check.due("answer " + same + " behind the refused " + call + " with " + state, told.get(same), due.get(same));
  }

  /** A call of one number. */
  interface Numbered {
    int on(CarryAlike x, int number);
  }

  void refusedFor(String call, Numbered numbered, long want, int... numbers) {
    for (int number : numbers) {
      refused(call + " for " + number, x -> numbered.on(x, number), want);
    }
  }

  // ---- pasts

  static void nothing(CarryAlike x) {
    x.count(0);
  }

  static void netAlone(CarryAlike x) {
    Check.write(x, "01,12=,23,30;d");
    x.net();
    Check.write(x, "01;");
  }

  /** All that can be is there, an IMAGE too, behind which things have gone on. */
  static void threeOnTheirWays(CarryAlike x) {
    Check.write(x, "01,12=,23,30;d");
    x.net();
    Check.walker(x, 1, 0, 2, 20, "1012");
    Check.walker(x, 2, 1, 3, 3, "01230");
    Check.walker(x, 3, 2, 0, 0, "3");
    for (int corner = 0; corner < 8; corner++) {
      x.heap(corner, 99 - 14 * corner);
    }
    x.minutes(1);
    x.image();
    x.heap(2, 5);
    Check.way(x, 2, "301");
    x.load(2, 1);
    x.minutes(1);
    x.soonest(0);
    Check.write(x, "12,23;");
  }

  /** As many WALKERS and letters as can be. */
  static void fiveAndAFullPage(CarryAlike x) {
    Check.write(x, "01,12=,23,30;w");
    x.net();
    for (int i = 0; i < 5; i++) {
      Check.walker(x, i % 4, i % 2, 3 - i % 4, 5 * i, i % 2 == 0 ? "10301030" : "01210121");
    }
    x.image();
    x.minutes(1);
    Check.write(x, "01230123012301230123012301230123012301230123012301");
  }

  static void allPlansDone(CarryAlike x) {
    Check.write(x, "01,12");
    x.net();
    x.walker(0, 0, 1, 1);
    x.walker(0, 1, 0, 2);
    for (int i = 0; i < 20; i++) {
      x.soonest(i % 4);
      x.wider(i % 2);
    }
  }

  // ---- all that is told

  /** Some 320 calls, of which the later ones change what they tell. */
  private static List<Long> everything(CarryAlike x) {
    List<Long> told = new ArrayList<>();
    tellOfNow(x, told);
    tellOfPlans(x, told);
    tellOfWays(x, told);
    told.add((long) x.restore());
    told.add(x.digest());
    tellOfWays(x, told);
    told.add((long) x.image());
    told.add((long) x.blank());
    told.add((long) x.walker(0, 0, 0, 0));
    return told;
  }

  private static void tellOfNow(CarryAlike x, List<Long> told) {
    told.add(x.digest());
    told.add((long) x.fault(0));
    told.add((long) x.fault(1));
    for (int lane = 0; lane < 5; lane++) {
      told.add((long) x.lane(lane, 2));
    }
    for (int walker = 0; walker < 5; walker++) {
      told.add((long) x.as(walker, 1));
      told.add((long) x.enough(walker));
      told.add((long) x.sure(walker, 1 << walker));
    }
    for (int set = 0; set < 32; set++) {
      told.add((long) x.fits(set));
    }
    for (int what = 0; what <= 2; what++) {
      told.add((long) x.crowd(60, 617, what));
    }
  }

  private static void tellOfPlans(CarryAlike x, List<Long> told) {
    for (int what = 0; what <= 3; what++) {
      told.add((long) x.soonest(what));
    }
    told.add((long) x.wider(0));
    told.add((long) x.count(7));
  }

  /** To the end of all WAYS: each corner of them shows. */
  private static void tellOfWays(CarryAlike x, List<Long> told) {
    for (int minute = 0; minute < MINUTES_TO_THE_END; minute++) {
      told.add((long) x.minutes(1));
      for (int walker = 0; walker < 5; walker++) {
        told.add((long) x.about(walker, 1));
      }
    }
    told.add(x.digest());
  }
}
