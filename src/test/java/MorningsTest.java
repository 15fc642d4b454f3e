/** Promises 15 to 22: minutes, first, soonest, wider, enough, fits, sure, crowd. */
public final class MorningsTest {
  private static final Check check = new Check("MorningsTest");
  private static final int NONE = CarryAlike.NONE;

  public static void main(String[] args) {
    minutes();
    manyInOneLane();
    first();
    soonest();
    soonestOfEachTwo();
    soonestOfOneAndTwo();
    wider();
    plansAreCounted();
    enough();
    fits();
    sure();
    crowd();
    crowdGoesBack();
    check.end();
  }

  private static void minutes() {
    CarryAlike x = new CarryAlike();
    check.refused("minutes without a net", x, () -> x.minutes(1), CarryAlike.STATE);
    check.refused("OUTSIDE ahead of STATE", x, () -> x.minutes(0), CarryAlike.OUTSIDE);
    Check.write(x, "01,12=");
    x.net();
    check.due("minutes(60) without walkers", x.minutes(60), 0);
    check.refused("minutes(61)", x, () -> x.minutes(61), CarryAlike.OUTSIDE);
    check.refused("minutes(0)", x, () -> x.minutes(0), CarryAlike.OUTSIDE);
    check.refused("minutes(-1)", x, () -> x.minutes(-1), CarryAlike.OUTSIDE);
    Check.walker(x, 0, 0, 2, 1, "012");
    Check.walker(x, 0, 2, 0, 2, "210");
    check.due("they stay a minute", x.minutes(1), 0);
    check.due("0 goes to 1, as does 1", x.minutes(1), 0);
    check.due("where 1 is", x.about(1, 1), 1);
    check.due("both are in one corner", x.about(0, 1), 1);
    check.due("they part", x.minutes(1), 0);
    check.due("where 0 is", x.about(0, 1), 2);
    check.due("where 1 is", x.about(1, 1), 0);
    Check.way(x, 0, "1");
    Check.way(x, 1, "12");
    check.due("from both ends", x.minutes(1), 0);
    check.due("0 stays there, 1 goes on", x.minutes(1), 0);
    check.due("where 0 is", x.about(0, 1), 1);
    check.due("where 1 is", x.about(1, 1), 2);
    Check.way(x, 0, "2");
    Check.way(x, 1, "1");
    check.due("through a wide lane", x.minutes(1), 0);
    check.due("where 0 is", x.about(0, 1), 2);
    Check.way(x, 1, "0");
    x.minutes(1);
    Check.way(x, 0, "10");
    Check.way(x, 1, "0112");
    check.due("one waits, then both go back", x.minutes(4), 3);
    check.due("corners left of 0", x.about(0, 5), 1);
    check.due("corners left of 1", x.about(1, 5), 3);
    check.due("where 0 is", x.about(0, 1), 1);
    check.due("where 1 is", x.about(1, 1), 0);
    x.load(0, 2);
    check.due("they carry alike now", x.minutes(60), 0);
    check.due("where 0 is", x.about(0, 1), 0);
    check.due("where 1 is", x.about(1, 1), 2);
    check.due("minutes in all", x.count(4), 131);
  }

  private static void manyInOneLane() {
    CarryAlike x = Check.withNet("01");
    Check.walker(x, 0, 0, 1, 3, "1");
    Check.walker(x, 0, 0, 1, 4, "1");
    Check.walker(x, 0, 1, 0, 4, "0");
    Check.walker(x, 0, 1, 0, 5, "0");
    Check.walker(x, 0, 0, 1, 4, "");
    check.due("three of four twos go back", x.minutes(1), 3);
    for (int walker = 0; walker < 4; walker++) {
      check.due("corners left of " + walker, x.about(walker, 5), 1);
    }
    x.load(3, 4);
    check.due("1 goes on, 0 goes back with two", x.minutes(1), 2);
    check.due("where 1 is", x.about(1, 1), 1);
    check.due("where 2 is", x.about(2, 1), 1);
    check.due("where 3 is", x.about(3, 1), 1);
  }

  private static void first() {
    CarryAlike x = new CarryAlike();
    check.refused("first(3)", x, () -> x.first(3), CarryAlike.OUTSIDE);
    check.refused("first(-1)", x, () -> x.first(-1), CarryAlike.OUTSIDE);
    Check.write(x, "01,12,23");
    x.net();
    Check.walker(x, 0, 3, 0, 1, "3332");
    Check.walker(x, 0, 2, 0, 1, "2223");
    Check.walker(x, 0, 0, 0, 5, "00001");
    Check.walker(x, 0, 1, 0, 6, "11110");
    Check.walker(x, 0, 1, 0, 7, "11110");
    firsts(x, 5, 2, 3);
    x.load(0, 2);
    firsts(x, 4, 0, 1);
    x.minutes(3);
    firsts(x, 1, 0, 1);
    x.load(0, 1);
    firsts(x, 2, 2, 3);
    x.load(2, 6);
    firsts(x, 2, 2, 4);
    x.load(2, 7);
    x.load(3, 7);
    firsts(x, NONE, NONE, NONE);
    check.due("nothing has gone by", x.count(4), 3);
  }

  private static void firsts(CarryAlike x, int minute, int lesser, int greater) {
    check.due("first(0)", x.first(0), minute);
    check.due("first(1)", x.first(1), lesser);
    check.due("first(2)", x.first(2), greater);
  }

  private static void soonest() {
    CarryAlike x = new CarryAlike();
    check.refused("soonest without walkers", x, () -> x.soonest(0), CarryAlike.STATE);
    check.refused("OUTSIDE ahead of STATE", x, () -> x.soonest(4), CarryAlike.OUTSIDE);
    Check.write(x, "01,12,13");
    x.net();
    check.refused("soonest with a net alone", x, () -> x.soonest(0), CarryAlike.STATE);
    x.walker(0, 0, 2, 1);
    x.walker(0, 2, 0, 2);
    x.walker(0, 1, 1, 3);
    check.due("past one another at corner 1", x.soonest(0), 2);
    check.due("the first step of 0", x.soonest(1), 1);
    check.due("the first step of 1", x.soonest(2), 1);
    check.due("the first step of 2", x.soonest(3), 1);
    check.refused("soonest(4)", x, () -> x.soonest(4), CarryAlike.OUTSIDE);
    check.refused("soonest(-1)", x, () -> x.soonest(-1), CarryAlike.OUTSIDE);
    x.walker(0, 0, 0, 0);
    check.refused("four walkers", x, () -> x.soonest(0), CarryAlike.STATE);
    Check.write(x, "01,12");
    x.net();
    x.walker(0, 0, 1, 1);
    x.walker(0, 1, 0, 2);
    check.due("one waits for the other one", x.soonest(0), 2);
    check.due("the least first step: 0 stays", x.soonest(1), 0);
    check.due("the least first step: 1 comes", x.soonest(2), 0);
    x.load(0, 2);
    check.due("they carry alike", x.soonest(0), 1);
    check.due("who is not there", x.soonest(3), NONE);
    check.due("nobody has gone", x.about(0, 1), 0);
  }

  /** Any two of three who change places in one lane, while the third one rests by itself. */
  private static void soonestOfEachTwo() {
    for (int rests = 0; rests < 3; rests++) {
      CarryAlike x = Check.withNet("12,30");
      int other = rests == 0 ? 1 : 0;
      for (int i = 0; i < 3; i++) {
        x.walker(0, i == rests ? 0 : i == other ? 1 : 2, i == rests ? 0 : i == other ? 2 : 1, i);
      }
      check.due("one waits", x.soonest(0), 2);
      for (int i = 0; i < 3; i++) {
        check.due("first they meet in 1, without " + rests, x.soonest(i + 1), i == rests ? 0 : 1);
      }
      check.due("the lane between them", x.wider(0), 0);
      x.load(3 - rests - other, x.about(other, 3));
      check.due("alike they pass", x.soonest(0), 1);
      check.due("and change places", x.soonest(other + 1), 2);
      firstStepOfEachTwo(rests, other, 3 - rests - other);
      firstStepOfEachTwo(rests, 3 - rests - other, other);
    }
  }

  /** Were it not for the one who comes, the other one would be in the lesser corner 1 at once. */
  private static void firstStepOfEachTwo(int rests, int comes, int other) {
    CarryAlike x = Check.withNet("12,23,40");
    for (int i = 0; i < 3; i++) {
      x.walker(0, i == rests ? 0 : i == comes ? 1 : 2, i == rests ? 0 : i == comes ? 3 : 1, i);
    }
    check.due("two minutes", x.soonest(0), 2);
    check.due(rests + " stays", x.soonest(rests + 1), 0);
    check.due(comes + " comes", x.soonest(comes + 1), 2);
    check.due(other + " waits for it", x.soonest(other + 1), 2);
  }

  private static void soonestOfOneAndTwo() {
    CarryAlike x = Check.withNet("01,12,23,34,45,56,67");
    x.walker(0, 0, 7, 1);
    check.due("alone", x.soonest(0), 7);
    check.due("its first step", x.soonest(1), 1);
    check.due("nobody else's", x.soonest(2), NONE);
    Check.way(x, 0, "1234567");
    x.minutes(7);
    check.due("already there", x.soonest(0), 0);
    check.due("no first step", x.soonest(1), NONE);
    x.walker(0, 7, 0, 1);
    check.due("the other one alone", x.soonest(0), 7);
    check.due("0 can go and come back: 6 is less", x.soonest(1), 6);
    check.due("1 goes", x.soonest(2), 6);
    CarryAlike y = Check.withNet("01,23");
    y.walker(0, 0, 2, 1);
    check.due("no way at all", y.soonest(0), NONE);
    check.due("no first step either", y.soonest(1), NONE);
    CarryAlike stranded = Check.withNet("01");
    stranded.walker(0, 7, 7, 0);
    stranded.walker(0, 0, 1, 0);
    check.due("who is in no lane stays", stranded.soonest(0), 1);
  }

  private static void wider() {
    CarryAlike x = new CarryAlike();
    check.refused("wider without walkers", x, () -> x.wider(0), CarryAlike.STATE);
    check.refused("OUTSIDE ahead of STATE", x, () -> x.wider(2), CarryAlike.OUTSIDE);
    Check.write(x, "67,01,12,24");
    x.net();
    x.walker(0, 0, 1, 1);
    x.walker(0, 1, 0, 2);
    check.due("the lane between them", x.wider(0), 1);
    check.due("soonest by it", x.wider(1), 1);
    check.refused("wider(-1)", x, () -> x.wider(-1), CarryAlike.OUTSIDE);
    check.due("no lane is wider for it", x.lane(1, 2), 0);
    x.load(0, 2);
    check.due("they pass as they are", x.wider(0), NONE);
    check.due("and no sooner", x.wider(1), NONE);
    CarryAlike row = Check.withNet("12,01");
    row.walker(0, 0, 2, 1);
    row.walker(0, 1, 0, 2);
    check.due("1 waits for 0 in corner 1", row.soonest(0), 2);
    check.due("it is no sooner by any", row.wider(0), NONE);
    CarryAlike never = Check.withNet("01");
    never.walker(0, 0, 1, 1);
    never.walker(0, 1, 0, 2);
    never.walker(0, 0, 0, 4);
    check.due("two minutes", never.soonest(0), 2);
    never.load(2, 3);
    check.due("by the only lane", never.wider(0), 0);
    // 1 meets 0 in lane 2 or 2 in lane 1; either of them would do.
    CarryAlike alike = Check.withNet("01,12,13,34,42");
    alike.walker(0, 3, 0, 1);
    alike.walker(0, 1, 4, 4);
    alike.walker(0, 2, 0, 7);
    check.due("without", alike.soonest(0), 3);
    check.due("of like ones the least", alike.wider(0), 1);
    check.due("soonest by it", alike.wider(1), 2);
    // 0 meets 1 in lane 1 and 2 in lane 2: either of them alone does not help, both would.
    CarryAlike both = Check.withNet("01,12,23,34");
    both.walker(0, 1, 3, 1);
    both.walker(0, 2, 0, 4);
    both.walker(0, 4, 2, 7);
    check.due("without", both.soonest(0), 3);
    check.due("no one lane is enough", both.wider(0), NONE);
    check.due("soonest by none", both.wider(1), NONE);
    CarryAlike wide = Check.withNet("01,12=,13,34,42");
    wide.walker(0, 3, 0, 1);
    wide.walker(0, 1, 4, 4);
    wide.walker(0, 2, 0, 7);
    check.due("with lane 1 wide", wide.soonest(0), 2);
    CarryAlike none = Check.withNet("01,23");
    none.walker(0, 0, 2, 1);
    check.due("by none", none.wider(0), NONE);
    check.due("by none", none.wider(1), NONE);
    CarryAlike ends = Check.withNet("01,12,23");
    ends.walker(0, 0, 3, 1);
    ends.walker(0, 3, 0, 2);
    check.due("by the middle one", ends.wider(0), 1);
    check.due("soonest by it", ends.wider(1), 3);
    check.due("soonest without", ends.soonest(0), 4);
    CarryAlike square = Check.withNet("10,12,23,30");
    square.walker(0, 0, 2, 1);
    square.walker(0, 2, 0, 2);
    check.due("a square needs none", square.wider(0), NONE);
  }

  private static void plansAreCounted() {
    CarryAlike x = Check.withNet("01");
    x.walker(0, 0, 1, 1);
    for (int i = 0; i < 20; i++) {
      x.soonest(0);
      x.wider(1);
      x.soonest(9);
      x.wider(9);
    }
    check.due("done", x.count(7), 40);
    check.refused("soonest() the 41st time", x, () -> x.soonest(0), CarryAlike.STATE);
    check.refused("wider() the 41st time", x, () -> x.wider(0), CarryAlike.STATE);
    check.refused("OUTSIDE all the same", x, () -> x.wider(2), CarryAlike.OUTSIDE);
    Check.write(x, "01");
    x.net();
    x.walker(0, 0, 1, 1);
    check.due("another net lets no more", x.soonest(0), CarryAlike.STATE);
    check.due("done", x.count(7), 40);
    CarryAlike y = Check.withNet("01");
    y.walker(0, 0, 1, 1);
    y.image();
    for (int i = 0; i < 39; i++) {
      y.wider(0);
      y.restore();
    }
    check.due("the 40th", y.soonest(0), 1);
    check.due("the 41st", y.soonest(0), CarryAlike.STATE);
  }

  private static void enough() {
    CarryAlike x = new CarryAlike();
    check.refused("enough(0) without walkers", x, () -> x.enough(0), CarryAlike.UNKNOWN);
    Check.write(x, "01,12");
    x.net();
    Check.walker(x, 0, 0, 1, 5, "1");
    Check.walker(x, 0, 1, 0, 9, "0");
    check.refused("enough(2)", x, () -> x.enough(2), CarryAlike.UNKNOWN);
    check.refused("enough(-1)", x, () -> x.enough(-1), CarryAlike.UNKNOWN);
    check.due("enough(0)", x.enough(0), 9);
    check.due("enough(1)", x.enough(1), 5);
    check.due("its load stays", x.about(0, 3), 5);
    Check.walker(x, 0, 0, 1, 7, "1");
    check.due("two unlike ones to pass", x.enough(1), NONE);
    check.due("enough for one in nobody's way", x.enough(Check.walker(x, 0, 2, 2, 7, "22")), 0);
    CarryAlike bride = Check.withNet("01");
    Check.walker(bride, 2, 0, 1, 1, "1");
    Check.walker(bride, 0, 1, 0, 19, "0");
    check.due("a bride needs less", bride.enough(0), 12);
    check.due("to pass the bride", bride.enough(1), 8);
    bride.load(1, 6);
    check.due("a bride carries too much", bride.enough(0), NONE);
    CarryAlike law = Check.withNet("01;d");
    Check.walker(law, 0, 0, 1, 20, "1");
    Check.walker(law, 3, 1, 0, 12, "0");
    check.due("half is the least; none is less", law.enough(1), 10);
    check.due("none is let by by the wise", law.enough(0), 0);
    enoughAmongOthers();
  }

  /** While two others go back for ever, one has to pass who is still there. */
  private static void enoughAmongOthers() {
    CarryAlike x = Check.withNet("01,12");
    Check.walker(x, 0, 0, 1, 3, "1");
    Check.walker(x, 0, 1, 0, 4, "0");
    Check.walker(x, 0, 2, 0, 9, "2210");
    check.due("it has to pass 0 at the door", x.enough(2), 3);
    x.load(1, 3);
    check.due("all are gone by then", x.enough(2), 0);
    x.load(1, 4);
    Check.way(x, 2, "221010");
    check.due("it has to pass both, one each way", x.enough(2), NONE);
    CarryAlike late = Check.withNet("01");
    Check.walker(late, 0, 0, 1, 3, "00000000000000000001");
    Check.walker(late, 0, 1, 0, 17, "11111111111111111110");
    check.due("in the twentieth minute", late.enough(0), 17);
    late.load(1, 20);
    check.due("as much as can be", late.enough(0), 20);
  }

  private static void fits() {
    CarryAlike x = new CarryAlike();
    check.due("fits(0) of nobody", x.fits(0), 1);
    check.refused("fits(1) of nobody", x, () -> x.fits(1), CarryAlike.OUTSIDE);
    Check.write(x, "01");
    x.net();
    Check.walker(x, 0, 0, 1, 3, "1");
    Check.walker(x, 0, 1, 0, 4, "0");
    check.due("fits(0): as they are they go back", x.fits(0), 0);
    check.due("fits(1)", x.fits(1), 1);
    check.due("fits(2)", x.fits(2), 1);
    check.due("fits(3)", x.fits(3), 10);
    check.refused("fits(4)", x, () -> x.fits(4), CarryAlike.OUTSIDE);
    check.refused("fits(-1)", x, () -> x.fits(-1), CarryAlike.OUTSIDE);
    x.load(0, 11);
    check.due("none to 9 is enough", x.fits(2), 0);
    x.load(1, 11);
    check.due("fits(0) as they pass", x.fits(0), 1);
    check.due("a third one is in nobody's way", x.fits(1 << Check.walker(x, 1, 0, 0, 5, "")), 10);
    check.due("all three", x.fits(7), 100);
    Check.walker(x, 2, 1, 0, 5, "10");
    check.due("three of four", x.fits(11), 100);
    check.refused("four of four", x, () -> x.fits(15), CarryAlike.OUTSIDE);
    CarryAlike three = Check.withNet("01");
    Check.walker(three, 0, 0, 1, 3, "1");
    Check.walker(three, 0, 0, 1, 4, "1");
    Check.walker(three, 0, 1, 0, 5, "0");
    check.due("all three alike", three.fits(7), 10);
    check.due("two of them: never both as the third one", three.fits(3), 1);
    check.due("sure of the first", three.sure(0, 3), 5);
    check.due("sure of the second", three.sure(1, 3), 5);
    check.due("one is not enough", three.fits(4), 0);
    CarryAlike law = Check.withNet("01;dw");
    Check.walker(law, 0, 0, 1, 3, "1");
    Check.walker(law, 2, 1, 0, 4, "0");
    check.due("with a bride, by the law", law.fits(3), 10 + 3 + 5);
    CarryAlike wise = Check.withNet("01");
    Check.walker(wise, 3, 0, 1, 3, "1");
    Check.walker(wise, 0, 1, 0, 4, "0");
    check.due("with a wise one", wise.fits(3), 10 + 9);
    CarryAlike others = Check.withNet("01,12");
    Check.walker(others, 0, 0, 1, 3, "1");
    Check.walker(others, 0, 1, 0, 4, "0");
    Check.walker(others, 0, 2, 2, 4, "2");
    check.due("others go back all the same", others.fits(4), 0);
  }

  private static void sure() {
    CarryAlike x = Check.withNet("01");
    Check.walker(x, 0, 0, 1, 3, "1");
    Check.walker(x, 0, 1, 0, 4, "0");
    Check.walker(x, 0, 1, 0, 4, "1");
    check.due("sure(0, 1)", x.sure(0, 1), 4);
    check.due("sure(1, 2)", x.sure(1, 2), 3);
    check.due("sure(0, 3): any two alike", x.sure(0, 3), NONE);
    check.due("sure(0, 5)", x.sure(0, 5), 4);
    check.due("sure(2, 5)", x.sure(2, 5), NONE);
    check.due("sure(1, 1): not of the set", x.sure(1, 1), NONE);
    check.due("sure(2, 4): no ways", x.sure(2, 4), NONE);
    check.due("sure(0, 0)", x.sure(0, 0), NONE);
    check.refused("sure(3, 0)", x, () -> x.sure(3, 0), CarryAlike.UNKNOWN);
    check.refused("sure(-1, 0)", x, () -> x.sure(-1, 0), CarryAlike.UNKNOWN);
    check.refused("sure(0, 8)", x, () -> x.sure(0, 8), CarryAlike.OUTSIDE);
    check.refused("sure(0, -1)", x, () -> x.sure(0, -1), CarryAlike.OUTSIDE);
    check.refused("sure(3, 8)", x, () -> x.sure(3, 8), CarryAlike.UNKNOWN);
    Check.walker(x, 0, 1, 0, 4, "1");
    check.refused("sure(0, 15)", x, () -> x.sure(0, 15), CarryAlike.OUTSIDE);
    x.load(0, 0);
    check.due("none is sure, too", x.sure(1, 2), 0);
  }

  private static void crowd() {
    CarryAlike x = new CarryAlike();
    check.refused("crowd without a net", x, () -> x.crowd(1, 0, 0), CarryAlike.STATE);
    check.refused("OUTSIDE ahead of STATE", x, () -> x.crowd(0, 0, 0), CarryAlike.OUTSIDE);
    Check.write(x, "01,03,02");
    x.net();
    check.due("no draws without walkers", x.crowd(60, 12, 2), 12);
    check.refused("crowd(61, 0, 0)", x, () -> x.crowd(61, 0, 0), CarryAlike.OUTSIDE);
    check.refused("crowd(1, -1, 0)", x, () -> x.crowd(1, -1, 0), CarryAlike.OUTSIDE);
    check.refused("crowd(1, 0, 3)", x, () -> x.crowd(1, 0, 3), CarryAlike.OUTSIDE);
    check.refused("crowd(1, 0, -1)", x, () -> x.crowd(1, 0, -1), CarryAlike.OUTSIDE);
    x.walker(0, 7, 7, 1);
    check.due("who is in no lane draws, too", x.crowd(1, 0, 2), 12345);
    check.due("and stays", x.crowd(60, 0, 1), 1);
    // From 0 in a corner with three others the draw is the rest by 4 of SEED / 65536.
    for (int seed = 0; seed < 2000; seed += 7) {
      long next = (1103515245L * (1103515245L * seed + 12345 & 0x7fffffffL) + 12345) & 0x7fffffffL;
      CarryAlike y = Check.withNet("01,03,02");
      y.walker(0, 7, 0, 1);
      int drawn = (int) (next / 65536 % 4);
      y.walker(0, 0, drawn, 1);
      check.due("crowd(1, " + seed + ", 1)", y.crowd(1, seed, 1), 2);
      check.due("crowd(1, " + seed + ", 2)", y.crowd(1, seed, 2), next);
      check.due("nobody has gone", y.about(1, 1), 0);
      check.due("no minute has gone", y.count(4), 0);
    }
  }

  /** Two in one lane by a seed: half the draws are to stay, and where both want to go they go back. */
  private static void crowdGoesBack() {
    for (int seed = 1; seed < 200; seed++) {
      CarryAlike x = Check.withNet("01");
      x.walker(0, 0, 0, 1);
      x.walker(0, 1, 1, 2);
      long s = seed;
      int[] at = {0, 1};
      int times = 0;
      for (int minute = 0; minute < 9; minute++) {
        int[] want = new int[2];
        for (int i = 0; i < 2; i++) {
          s = 1103515245L * s + 12345 & 0x7fffffffL;
          want[i] = s / 65536 % 2 == 0 ? at[i] : 1 - at[i];
        }
        boolean against = at[0] != at[1] && want[0] == at[1] && want[1] == at[0];
        times += against ? 1 : 0;
        at = against ? at : want;
      }
      check.due("crowd(9, " + seed + ", 0)", x.crowd(9, seed, 0), times);
      check.due("crowd(9, " + seed + ", 1)", x.crowd(9, seed, 1), (at[0] == 0 ? 1 : 0) + (at[1] == 1 ? 2 : 0));
      check.due("crowd(9, " + seed + ", 2)", x.crowd(9, seed, 2), s);
    }
  }
}
