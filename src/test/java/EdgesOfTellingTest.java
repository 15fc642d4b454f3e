import java.math.BigInteger;
import java.util.ArrayList;
import java.util.List;

/** What the document says of IMAGES, of promises 23 to 26 and of an object's last call at their edges: a test for each sentence. */
public final class EdgesOfTellingTest {
  private static final Check check = new Check("EdgesOfTellingTest");
  private static final int NONE = CarryAlike.NONE, OUTSIDE = CarryAlike.OUTSIDE, STATE = CarryAlike.STATE;
  private static final int MIN = Integer.MIN_VALUE, MAX = Integer.MAX_VALUE;

  private static final Twins nothing = new Twins(check, "nothing", Twins::nothing);
  private static final Twins netAlone = new Twins(check, "a net alone", Twins::netAlone);
  private static final Twins three = new Twins(check, "three on their ways", Twins::threeOnTheirWays);
  private static final Twins five = new Twins(check, "five and a full page", Twins::fiveAndAFullPage);
  private static final Twins[] all = {nothing, netAlone, three, five};

  public static void main(String[] args) {
    imageWithoutANet();
    imageOfNobody();
    imageTheLatestOne();
    imageTellsMinutesWhoeverIsThere();
    restoreWithoutAnImage();
    restoreBehindANet();
    restoreBehindATextThatIsNone();
    restoreOfHowManyWalkers();
    restoreOfWhereTheyAre();
    restoreOfWays();
    restoreOfHeaps();
    restoreOfOtherThingsNot();
    countOutside();
    countOfNothing();
    countOfMost();
    digestOfNothing();
    digestOfMost();
    digestWraps();
    theLastCallOfAll();
    check.end();
  }

  // ---- promise 23

  private static void imageWithoutANet() {
    nothing.refused("image()", CarryAlike::image, STATE);
  }

  private static void imageOfNobody() {
    CarryAlike x = netAlone.another();
    check.due("image()", x.image(), 0);
    x.walker(0, 0, 0, 0);
    x.minutes(60);
    check.due("restore()", x.restore(), 0);
    check.due("nobody is there", x.count(2), 0);
    check.due("no minute has gone", x.count(4), 0);
  }

  private static void imageTheLatestOne() {
    CarryAlike x = Check.withNet("01");
    for (int minutes = 0; minutes <= 5; minutes++) {
      check.due("image()", x.image(), minutes);
      x.minutes(1);
    }
    check.due("restore() of the latest", x.restore(), 5);
    check.due("once more", x.restore(), 5);
    x.minutes(1);
    check.due("image()", x.image(), 6);
    check.due("restore() of the new one", x.restore(), 6);
  }

  private static void imageTellsMinutesWhoeverIsThere() {
    for (int walkers = 0; walkers <= 5; walkers++) {
      CarryAlike x = Check.withNet("01");
      for (int i = 0; i < walkers; i++) {
        Check.walker(x, i % 4, i % 2, 0, i, "0101".substring(i % 2));
      }
      for (int minutes = 0; minutes <= 120; minutes += 60) {
        check.due("image() of " + walkers + " behind " + minutes, x.image(), minutes);
        check.due("count(4) then", x.count(4), minutes);
        x.minutes(60);
        check.due("restore()", x.restore(), minutes);
        x.minutes(60);
      }
    }
  }

  // ---- promise 24

  private static void restoreWithoutAnImage() {
    nothing.refused("restore()", CarryAlike::restore, STATE);
    netAlone.refused("restore()", CarryAlike::restore, STATE);
  }

  private static void restoreBehindANet() {
    for (String text : new String[] {"01,12=,23,30;d", "01"}) {
      Twins twins = new Twins(check, "another net of " + text, x -> {
        Twins.threeOnTheirWays(x);
        x.blank();
        Check.write(x, text);
        x.net();
        x.walker(0, 0, 0, 0);
      });
      twins.refused("restore()", CarryAlike::restore, STATE);
      CarryAlike x = twins.another();
      x.minutes(2);
      check.due("image()", x.image(), 2);
      check.due("restore() of an image of this net", x.restore(), 2);
    }
  }

  private static void restoreBehindATextThatIsNone() {
    CarryAlike x = three.another();
    check.due("net() of a text that is none", x.net(), STATE);
    check.due("restore()", x.restore(), 1);
    CarryAlike y = new CarryAlike();
    check.due("image()", y.image(), STATE);
    Check.write(y, "01");
    y.net();
    check.due("restore() behind an image() that was refused", y.restore(), STATE);
  }

  private static void restoreOfHowManyWalkers() {
    for (int kept = 0; kept <= 5; kept++) {
      CarryAlike x = Check.withNet("01");
      for (int i = 0; i < 5; i++) {
        if (i == kept) {
          x.image();
        }
        Check.walker(x, 3, 0, 1, 9, "0101");
      }
      if (kept == 5) {
        x.image();
      }
      x.restore();
      check.due("as many as there were", x.count(2), kept);
      check.due("the next one is gone", x.about(kept, 0), CarryAlike.UNKNOWN);
      check.due("its number is free", x.walker(2, 1, 1, 4), kept < 5 ? kept : CarryAlike.FULL);
      int[] due = {2, 1, 1, 4, 11, 0, NONE};
      for (int what = 0; what <= 6 && kept < 5; what++) {
        check.due("about(" + kept + ", " + what + ") of who bears it now", x.about(kept, what), due[what]);
      }
    }
  }

  private static void restoreOfWhereTheyAre() {
    CarryAlike x = Check.withNet("01,12");
    Check.walker(x, 0, 0, 2, 20, "12");
    Check.walker(x, 0, 2, 2, 0, "");
    x.image();
    x.minutes(2);
    x.load(0, 0);
    x.load(1, 20);
    check.due("both are there", x.count(3), 2);
    check.due("restore()", x.restore(), 0);
    check.due("one is there", x.count(3), 1);
    check.due("where the other one is", x.about(0, 1), 0);
    check.due("its LOAD", x.about(0, 3), 20);
    check.due("the LOAD of the one who is there", x.about(1, 3), 0);
  }

  /** How far they are on their WAYS, and these: from an empty one to the longest. */
  private static void restoreOfWays() {
    String longest = "01010101010101010101";
    CarryAlike x = Check.withNet("01");
    Check.walker(x, 0, 0, 0, 1, longest);
    Check.walker(x, 0, 0, 0, 1, "");
    Check.walker(x, 0, 0, 0, 1, "1");
    x.minutes(3);
    x.image();
    Check.way(x, 0, "1");
    Check.way(x, 1, longest);
    Check.way(x, 2, "0101");
    x.minutes(1);
    x.restore();
    int[] left = {17, 0, 0};
    for (int i = 0; i < 3; i++) {
      check.due("corners left of " + i, x.about(i, 5), left[i]);
    }
    for (int done = 3; done < 20; done++) {
      check.due("the corner behind " + done, x.about(0, 6), done % 2);
      x.minutes(1);
    }
    check.due("at the end", x.about(0, 6), NONE);
    x.restore();
    check.due("and again", x.about(0, 5), 17);
  }

  private static void restoreOfHeaps() {
    CarryAlike x = Check.withNet("01");
    for (int corner = 0; corner < 8; corner++) {
      x.heap(corner, 99 * (corner % 2));
    }
    x.image();
    for (int corner = 0; corner < 8; corner++) {
      x.heap(corner, 50);
    }
    x.restore();
    for (int corner = 0; corner < 8; corner++) {
      check.due("heap(" + corner + ", 7)", x.heap(corner, 7), 99 * (corner % 2));
    }
  }

  /** THE PAGE, how often a NET was read and how often was planned go on. */
  private static void restoreOfOtherThingsNot() {
    CarryAlike x = Check.withNet("01");
    x.walker(0, 0, 1, 1);
    x.image();
    Check.write(x, "xyz");
    x.soonest(0);
    x.wider(0);
    x.restore();
    check.due("letters", x.count(5), 3);
    check.due("nets read", x.count(6), 1);
    check.due("plans done", x.count(7), 2);
    check.due("lanes", x.count(0), 1);
  }

  // ---- promise 25

  private static void countOutside() {
    for (Twins twins : all) {
      twins.refusedFor("count", CarryAlike::count, OUTSIDE, MIN, -1, 10, MAX);
    }
  }

  private static void counts(String state, CarryAlike x, int... due) {
    for (int what = 0; what <= 9; what++) {
      check.due("count(" + what + ") with " + state, x.count(what), due[what]);
    }
  }

  private static void countOfNothing() {
    counts("nothing", new CarryAlike(), 0, 0, 0, 0, 0, 0, 0, 0, 0, 0);
    counts("the shortest net", Check.withNet("01"), 1, 0, 0, 0, 0, 0, 1, 0, 0, 0);
  }

  private static void countOfMost() {
    CarryAlike x = Check.withNet("01=,12=,23=,34=,45=,56=,67=,70=,02=,13=,24=,35=;dw");
    for (int i = 0; i < 5; i++) {
      if (i == 3) {
        for (int plan = 0; plan < 40; plan++) {
          x.wider(0);
        }
      }
      x.walker(0, i, i, 0);
    }
    x.minutes(60);
    Check.write(x, "01234567012345670123456701234567012345670123456701");
    counts("most", x, 12, 12, 5, 5, 60, 50, 1, 40, 1, 1);
    x.blank();
    Check.write(x, "01;w");
    x.net();
    counts("another net", x, 1, 0, 0, 0, 0, 0, 2, 40, 0, 1);
  }

  // ---- promise 26

  /** What digest() is made of, by the other calls; FITS of the first three by its own number. */
  private static List<Integer> numbers(CarryAlike x, boolean hasNet, int[] heaps, String page) {
    List<Integer> numbers = new ArrayList<>();
    for (int lane = 0; lane < x.count(0); lane++) {
      for (int what = 0; what <= 2; what++) {
        numbers.add(x.lane(lane, what));
      }
    }
    int walkers = x.count(2);
    for (int walker = 0; walker < walkers; walker++) {
      for (int what = 0; what <= 6; what++) {
        numbers.add(x.about(walker, what));
      }
      for (int other = 0; other < walkers; other++) {
        if (other != walker) {
          numbers.add(x.pass(walker, other));
        }
      }
      numbers.add(x.enough(walker));
    }
    for (int corner = 0; hasNet && corner < 8; corner++) {
      numbers.add(heaps[corner]);
    }
    for (int what = 0; what <= 2; what++) {
      numbers.add(x.first(what));
    }
    numbers.add(x.fits(new int[] {0, 1, 3, 7, 7, 7}[walkers]));
    for (char letter : page.toCharArray()) {
      numbers.add((int) letter);
    }
    for (int what = 0; what <= 9; what++) {
      numbers.add(x.count(what));
    }
    return numbers;
  }

  private static BigInteger sum(List<Integer> numbers) {
    BigInteger h = BigInteger.valueOf(617);
    for (int number : numbers) {
      h = h.multiply(BigInteger.valueOf(31)).add(BigInteger.valueOf(number));
    }
    return h;
  }

  private static void digestOfNothing() {
    List<Integer> none = List.of(NONE, NONE, NONE, 1, 0, 0, 0, 0, 0, 0, 0, 0, 0, 0);
    check.due("digest() of a new object", new CarryAlike().digest(), sum(none).longValue());
    check.due("by the other calls", sum(numbers(new CarryAlike(), false, null, "")).longValue(), sum(none).longValue());
    CarryAlike page = new CarryAlike();
    page.letters(0x017EL);
    check.due("digest() of letters alone", page.digest(), sum(numbers(page, false, null, "~\1")).longValue());
    CarryAlike net = Check.withNet("01");
    check.due("digest() of a net alone", net.digest(), sum(numbers(net, true, new int[8], "")).longValue());
  }

  private static void digestOfMost() {
    int[] heaps = {99, 0, 1, 98, 50, 49, 7, 99};
    String page = "~~~~~~~~~~01234567012345670123456701234567,,,,;dw=";
    for (int walkers = 0; walkers <= 5; walkers++) {
      CarryAlike x = Check.withNet("01,12,23,34,45,56,67,70,02,13,24,35;dw");
      for (int i = 0; i < walkers; i++) {
        Check.walker(x, i % 4, i % 2, 7 - i, 5 * i, i % 2 == 0 ? "10101010101010101010" : "0");
      }
      for (int corner = 0; corner < 8; corner++) {
        x.heap(corner, heaps[corner]);
      }
      Check.write(x, page);
      long due = sum(numbers(x, true, heaps, page)).longValue();
      check.due("digest() of " + walkers, x.digest(), due);
      check.due("it changes nothing", x.digest(), due);
    }
  }

  /** As longs, wrapping: beyond what a long holds, and below 0. */
  private static void digestWraps() {
    CarryAlike none = new CarryAlike();
    BigInteger whole = sum(numbers(none, false, null, ""));
    check.due("it is above what a long can hold", whole.bitLength() > 64 ? 1 : 0, 1);
    check.due("its rest", none.digest(), whole.longValue());
    int below = 0;
    for (int letters = 1; letters <= 50; letters++) {
      CarryAlike x = new CarryAlike();
      Check.write(x, "a".repeat(letters));
      long rest = sum(numbers(x, false, null, "a".repeat(letters))).longValue();
      check.due("its rest with " + letters + " letters", x.digest(), rest);
      below += rest < 0 ? 1 : 0;
    }
    check.due("some of them are below 0", below > 0 && below < 50 ? 1 : 0, 1);
  }

  // ---- an object is used for at most 512 calls

  private static void theLastCallOfAll() {
    CarryAlike x = new CarryAlike();
    x.letters(0x3130L);
    x.net();
    for (int call = 3; call <= 511; call++) {
      x.minutes(60);
    }
    check.due("the 512th call", x.count(4), 509 * 60);
    CarryAlike y = new CarryAlike();
    for (int call = 1; call <= 510; call += 2) {
      y.letters(0x3130L);
      y.net();
    }
    check.due("the 511th call", y.count(6), 255);
    check.due("the 512th call", y.count(0), 1);
  }
}
