import java.math.BigInteger;

/** What the document says of WAYS, of mornings and of promises 15 to 22 at their edges: a test for each sentence. */
public final class EdgesOfMorningsTest {
  private static final Check check = new Check("EdgesOfMorningsTest");
  private static final int NONE = CarryAlike.NONE, UNKNOWN = CarryAlike.UNKNOWN, OUTSIDE = CarryAlike.OUTSIDE, STATE = CarryAlike.STATE;
  private static final int MIN = Integer.MIN_VALUE, MAX = Integer.MAX_VALUE;
  private static final int PORTER = 1, BRIDE = 2, WISE = 3;
  private static final String TWENTY = "01010101010101010101";

  private static final Twins nothing = new Twins(check, "nothing", Twins::nothing);
  private static final Twins netAlone = new Twins(check, "a net alone", Twins::netAlone);
  private static final Twins three = new Twins(check, "three on their ways", Twins::threeOnTheirWays);
  private static final Twins five = new Twins(check, "five and a full page", Twins::fiveAndAFullPage);
  private static final Twins plansDone = new Twins(check, "all plans done", Twins::allPlansDone);
  private static final Twins[] all = {nothing, netAlone, three, five, plansDone};

  public static void main(String[] args) {
    minutesRefusals();
    minutesOfNobody();
    minutesBehindTheEndOfAWay();
    minutesOfTwoWhoAreNotAgainstOneAnother();
    minutesOfTwoWhoPass();
    minutesOfTwoWhoGoBack();
    minutesOfMostWhoGoBack();
    minutesWithRoomForAll();
    firstOutside();
    firstOfNobody();
    firstMinuteAndTwentieth();
    firstOfEachTwo();
    firstOfSeveralTheLeast();
    soonestRefusals();
    soonestOfOneToThree();
    soonestOfNoneMinutes();
    soonestOfMostMinutes();
    soonestNotAtAll();
    soonestFirstStep();
    plansFortyTimesEver();
    widerRefusals();
    widerFirstLaneAndTwelfth();
    widerNone();
    enoughUnknown();
    enoughOfNoneAndTwenty();
    enoughOfABride();
    enoughOnTheWholeWay();
    enoughAmongTwoWhoGoBack();
    fitsOutside();
    fitsOfAnEmptySetAndAFullOne();
    fitsOfNoneToNine();
    fitsAmongTwoWhoGoBack();
    sureRefusals();
    sureOfNoneAndNine();
    sureNone();
    crowdRefusals();
    crowdOfNobody();
    crowdOfNoneToSevenLanes();
    crowdOfTheLeastAndTheGreatestSeed();
    crowdOfMostMinutes();
    crowdAtTheirGoals();
    crowdByNumberFromWhereTheyAre();
    check.end();
  }

  // ---- promise 15

  private static void minutesRefusals() {
    for (Twins twins : all) {
      twins.refusedFor("minutes", CarryAlike::minutes, OUTSIDE, MIN, -1, 0, 61, MAX);
    }
    nothing.refusedFor("minutes", CarryAlike::minutes, STATE, 1, 60);
  }

  private static void minutesOfNobody() {
    CarryAlike x = Check.withNet("01");
    check.due("minutes(1)", x.minutes(1), 0);
    check.due("minutes(60)", x.minutes(60), 0);
    check.due("all have gone", x.count(4), 61);
    for (int i = 0; i < 400; i++) {
      x.minutes(60);
    }
    check.due("so have as many as can be", x.count(4), 61 + 400 * 60);
    check.due("image()", x.image(), 61 + 400 * 60);
  }

  private static void minutesBehindTheEndOfAWay() {
    CarryAlike x = Check.withNet("01");
    Check.walker(x, 0, 1, 0, 1, TWENTY);
    Check.walker(x, 0, 1, 0, 2, "");
    check.due("minutes(19)", x.minutes(19), 0);
    check.due("corners left", x.about(0, 5), 1);
    check.due("where it is", x.about(0, 1), 0);
    check.due("minutes(1)", x.minutes(1), 0);
    check.due("corners left", x.about(0, 5), 0);
    check.due("where it is", x.about(0, 1), 1);
    Check.way(x, 1, "0");
    check.due("who is at the end stays", x.minutes(60), 0);
    check.due("where it is", x.about(0, 1), 1);
    check.due("where the other one is", x.about(1, 1), 0);
  }

  /** Of two a corner and a way each, as they would be behind a minute. */
  private static void goes(String net, int a, String wayOfA, int b, String wayOfB, int times) {
    CarryAlike x = Check.withNet(net);
    Check.walker(x, 0, a, 0, 1, wayOfA);
    Check.walker(x, 0, b, 0, 4, wayOfB);
    String call = net + ": " + a + " by " + wayOfA + ", " + b + " by " + wayOfB;
    check.due(call, x.minutes(1), times);
    check.due(call + ", where the first one is", x.about(0, 1), times > 0 || wayOfA.isEmpty() ? a : wayOfA.charAt(0) - '0');
    check.due(call + ", where the second one is", x.about(1, 1), times > 0 || wayOfB.isEmpty() ? b : wayOfB.charAt(0) - '0');
    check.due(call + ", what is left", x.about(0, 5), wayOfA.length() - (times > 0 || wayOfA.isEmpty() ? 0 : 1));
  }

  private static void minutesOfTwoWhoAreNotAgainstOneAnother() {
    goes("01,12,20", 0, "1", 0, "1", 0);
    goes("01,12,20", 0, "1", 1, "1", 0);
    goes("01,12,20", 0, "1", 1, "2", 0);
    goes("01,12,20", 0, "1", 1, "", 0);
    goes("01,12,20", 0, "0", 1, "0", 0);
    goes("01,12,20", 0, "1", 2, "1", 0);
    goes("01,12,20", 0, "0", 0, "0", 0);
    CarryAlike ring = Check.withNet("01,12,20");
    Check.walker(ring, 0, 0, 0, 1, "1");
    Check.walker(ring, 0, 1, 0, 3, "2");
    Check.walker(ring, 0, 2, 0, 7, "0");
    check.due("three round a ring", ring.minutes(1), 0);
    check.due("the last one has gone", ring.about(2, 1), 0);
  }

  private static void minutesOfTwoWhoPass() {
    goes("01=", 0, "1", 1, "0", 0);
    goes("12,01=;d", 1, "0", 0, "1", 0);
    CarryAlike alike = Check.withNet("01");
    Check.walker(alike, 0, 0, 0, 20, "1");
    Check.walker(alike, BRIDE, 1, 0, 13, "0");
    check.due("who carry alike", alike.minutes(1), 0);
    CarryAlike twice = Check.withNet("01;d");
    Check.walker(twice, 0, 0, 0, 20, "1");
    Check.walker(twice, BRIDE, 1, 0, 3, "0");
    check.due("who carries the double", twice.minutes(1), 0);
    CarryAlike none = Check.withNet("01;w");
    Check.walker(none, 0, 0, 0, 20, "1");
    Check.walker(none, 0, 1, 0, 0, "0");
    check.due("who carries nothing", none.minutes(1), 0);
    CarryAlike wise = Check.withNet("01");
    Check.walker(wise, WISE, 0, 0, 20, "1");
    Check.walker(wise, 0, 1, 0, 0, "0");
    check.due("who meets a wise one with nothing", wise.minutes(1), 0);
  }

  /** They stay, and want the same in the next MINUTE. */
  private static void minutesOfTwoWhoGoBack() {
    goes("01", 0, "1", 1, "0", 1);
    goes("01,12=", 0, "12", 1, "00", 1);
    goes("10;dw", 1, "0", 0, "1", 1);
    CarryAlike x = Check.withNet("01");
    Check.walker(x, 0, 0, 0, 1, "1");
    Check.walker(x, 0, 1, 0, 4, "0");
    check.due("each of sixty minutes", x.minutes(60), 60);
    check.due("and each of sixty more", x.minutes(60), 60);
    check.due("what it wants", x.about(0, 6), 1);
    x.load(1, 1);
    check.due("till they pass", x.minutes(60), 0);
    check.due("where it is", x.about(0, 1), 1);
  }

  private static void minutesOfMostWhoGoBack() {
    CarryAlike x = Check.withNet("01");
    for (int i = 0; i < 5; i++) {
      Check.walker(x, 0, i % 2, 0, 1 + i * i, i % 2 == 0 ? "1" : "0");
    }
    check.due("each of three with each of two", x.minutes(1), 6);
    check.due("sixty times", x.minutes(60), 360);
    x.load(4, 2);
    check.due("one who passes one goes back with the other one", x.minutes(1), 5);
    check.due("and so stays", x.about(4, 1), 0);
  }

  private static void minutesWithRoomForAll() {
    CarryAlike x = Check.withNet("01,02,03,04,05");
    for (int i = 0; i < 5; i++) {
      Check.walker(x, 0, i + 1, 0, i, "0");
    }
    check.due("five come to one corner", x.minutes(1), 0);
    check.due("all are there", x.count(3), 5);
  }

  // ---- promise 16

  private static void firstOutside() {
    for (Twins twins : all) {
      twins.refusedFor("first", CarryAlike::first, OUTSIDE, MIN, -1, 3, MAX);
    }
  }

  private static void firsts(String who, CarryAlike x, int minute, int lesser, int greater) {
    check.due("first(0) of " + who, x.first(0), minute);
    check.due("first(1) of " + who, x.first(1), lesser);
    check.due("first(2) of " + who, x.first(2), greater);
  }

  private static void firstOfNobody() {
    firsts("nobody without a net", nothing.another(), NONE, NONE, NONE);
    firsts("nobody", netAlone.another(), NONE, NONE, NONE);
    CarryAlike x = Check.withNet("01");
    x.walker(0, 0, 1, 1);
    x.walker(0, 1, 0, 2);
    firsts("two without ways", x, NONE, NONE, NONE);
    Check.way(x, 0, TWENTY);
    firsts("one alone on its way", x, NONE, NONE, NONE);
    Check.way(x, 1, "1");
    firsts("one who meets nobody", x, NONE, NONE, NONE);
    x.minutes(20);
    firsts("two at the end", x, NONE, NONE, NONE);
  }

  private static void firstMinuteAndTwentieth() {
    CarryAlike x = Check.withNet("01");
    Check.walker(x, 0, 0, 1, 1, "00000000000000000001");
    Check.walker(x, 0, 1, 0, 2, "11111111111111111110");
    firsts("the last corners of the longest ways", x, 20, 0, 1);
    check.due("nothing has gone by", x.count(4), 0);
    x.minutes(18);
    firsts("those two minutes on", x, 2, 0, 1);
    x.minutes(1);
    firsts("those now", x, 1, 0, 1);
    check.due("they go back", x.minutes(60), 60);
    firsts("those still there", x, 1, 0, 1);
    x.load(0, 2);
    firsts("those who carry alike", x, NONE, NONE, NONE);
  }

  private static void firstOfEachTwo() {
    for (int lesser = 0; lesser < 5; lesser++) {
      for (int greater = lesser + 1; greater < 5; greater++) {
        CarryAlike x = Check.withNet("01");
        for (int i = 0; i < 5; i++) {
          Check.walker(x, 0, i == greater ? 1 : 0, 0, i, i == lesser ? "01" : i == greater ? "10" : "1");
        }
        for (int i = 0; i < 5; i++) {
          x.load(i, i == lesser ? 1 : 20);
        }
        firsts("just two", x, 2, lesser, greater);
      }
    }
  }

  private static void firstOfSeveralTheLeast() {
    CarryAlike x = Check.withNet("01,23");
    String[] ways = {"1", "3", "2", "0", "0"};
    int[] corners = {0, 2, 3, 1, 1};
    for (int i = 0; i < 5; i++) {
      Check.walker(x, 0, corners[i], 0, 1 + i * i, ways[i]);
    }
    firsts("the least first one, then the least second one", x, 1, 0, 3);
    x.load(3, 1);
    firsts("the next second one", x, 1, 0, 4);
    x.load(4, 1);
    firsts("the next first one", x, 1, 1, 2);
    x.load(2, x.about(1, 3));
    firsts("all alike", x, NONE, NONE, NONE);
  }

  // ---- promise 17

  /** OUTSIDE, then STATE: more than three WALKERS, none, or all plans are done. */
  private static void soonestRefusals() {
    for (Twins twins : all) {
      twins.refusedFor("soonest", CarryAlike::soonest, OUTSIDE, MIN, -1, 4, MAX);
    }
    for (Twins twins : new Twins[] {nothing, netAlone, five, plansDone}) {
      twins.refusedFor("soonest", CarryAlike::soonest, STATE, 0, 1, 2, 3);
    }
    CarryAlike x = three.another();
    check.due("of three", x.soonest(0) >= 0 ? 1 : 0, 1);
    x.walker(0, 0, 0, 0);
    check.due("of four", x.soonest(0), STATE);
    x.restore();
    check.due("of three again", x.soonest(0) >= 0 ? 1 : 0, 1);
  }

  private static void soonestOfOneToThree() {
    CarryAlike x = Check.withNet("01,12");
    for (int i = 0; i < 3; i++) {
      check.due("walker()", x.walker(0, 0, 2, 5 - i), i);
      check.due("soonest(0) of " + (i + 1), x.soonest(0), 2);
      for (int step = 1; step <= 3; step++) {
        check.due("soonest(" + step + ") of " + (i + 1), x.soonest(step), step <= i + 1 ? 1 : NONE);
      }
    }
  }

  private static void soonestOfNoneMinutes() {
    CarryAlike x = Check.withNet("01");
    for (int i = 0; i < 3; i++) {
      x.walker(0, 7 - i, 7 - i, i);
      check.due("all are there already", x.soonest(0), 0);
      for (int step = 1; step <= 3; step++) {
        check.due("so there is no first step", x.soonest(step), NONE);
      }
      check.due("and none is sooner", x.wider(0), NONE);
      check.due("by none", x.wider(1), NONE);
    }
  }

  /** The longest row there can be; WAYS do not matter. */
  private static void soonestOfMostMinutes() {
    CarryAlike x = Check.withNet("01,12,23,34,45,56,67");
    x.walker(0, 0, 7, 1);
    Check.way(x, 0, "00000000000000000000");
    check.due("from end to end", x.soonest(0), 7);
    x.walker(0, 7, 0, 2);
    check.due("from both ends", x.soonest(0), 8);
    check.due("0 waits, since its corner is less", x.soonest(1), 0);
    check.due("1 comes", x.soonest(2), 6);
    x.walker(0, 7, 0, 3);
    check.due("from both ends with a third one", x.soonest(0), 8);
    x.load(1, 1);
    x.load(2, 1);
    check.due("all alike", x.soonest(0), 7);
    CarryAlike back = Check.withNet("01,12,23,34,45,56,67");
    back.walker(0, 7, 0, 1);
    check.due("from the other end", back.soonest(0), 7);
    check.due("its first step", back.soonest(1), 6);
  }

  private static void soonestNotAtAll() {
    CarryAlike x = Check.withNet("01,23");
    x.walker(0, 0, 1, 1);
    x.walker(0, 2, 1, 1);
    check.due("no way there", x.soonest(0), NONE);
    for (int step = 1; step <= 3; step++) {
      check.due("no first step", x.soonest(step), NONE);
    }
    check.due("none at all is most: by no lane", x.wider(0), NONE);
    check.due("by no lane", x.wider(1), NONE);
    check.due("these were done, too", x.count(7), 6);
    CarryAlike alone = Check.withNet("01");
    alone.walker(0, 7, 0, 1);
    check.due("from where no lane is", alone.soonest(0), NONE);
  }

  /** Of all that let it be so soon the least corner of the first one, then of the second, then of the third. */
  private static void soonestFirstStep() {
    CarryAlike x = Check.withNet("70,71,72,60,61,62");
    for (int i = 0; i < 3; i++) {
      x.walker(0, 7, 6, 3);
    }
    for (int step = 1; step <= 3; step++) {
      check.due("the least of three corners", x.soonest(step), 0);
    }
    CarryAlike free = Check.withNet("01,12,23,34,45,20");
    free.walker(0, 2, 5, 1);
    free.walker(0, 2, 2, 1);
    free.walker(0, 4, 4, 1);
    check.due("three minutes", free.soonest(0), 3);
    check.due("0 has to go", free.soonest(1), 3);
    check.due("1 can come back: 0 is the least", free.soonest(2), 0);
    check.due("2 can come back: 3 is the least", free.soonest(3), 3);
  }

  /** Refused ones and other ones do not count; a net read or an image gone back to does not count anew. */
  private static void plansFortyTimesEver() {
    CarryAlike x = Check.withNet("01,12");
    x.walker(0, 0, 1, 1);
    x.image();
    for (int done = 0; done < 40; done++) {
      check.due("count(7)", x.count(7), done);
      x.soonest(4);
      x.wider(-1);
      check.due("plan " + done, done % 2 == 0 ? x.soonest(0) : x.wider(0), done % 2 == 0 ? 1 : NONE);
      x.restore();
    }
    check.due("count(7)", x.count(7), 40);
    check.due("soonest(0) the 41st time", x.soonest(0), STATE);
    check.due("wider(0) the 41st time", x.wider(0), STATE);
    check.due("restore()", x.restore(), 0);
    check.due("soonest(0) of the image", x.soonest(0), STATE);
    x.blank();
    Check.write(x, "01");
    x.net();
    x.walker(0, 0, 1, 1);
    check.due("wider(0) of another net", x.wider(0), STATE);
    check.due("count(7)", x.count(7), 40);
  }

  // ---- promise 18

  private static void widerRefusals() {
    for (Twins twins : all) {
      twins.refusedFor("wider", CarryAlike::wider, OUTSIDE, MIN, -1, 2, MAX);
    }
    for (Twins twins : new Twins[] {nothing, netAlone, five, plansDone}) {
      twins.refusedFor("wider", CarryAlike::wider, STATE, 0, 1);
    }
  }

  private static void widerFirstLaneAndTwelfth() {
    String others = "23,24,25,26,27,34,35,36,37,45,46";
    for (int lane = 0; lane <= 11; lane += 11) {
      CarryAlike x = Check.withNet(lane == 0 ? "01," + others : others + ",01");
      x.walker(0, 0, 1, 1);
      x.walker(0, 1, 0, 2);
      check.due("soonest(0) as it is", x.soonest(0), 2);
      check.due("wider(0)", x.wider(0), lane);
      check.due("wider(1)", x.wider(1), 1);
      check.due("no lane has become wide", x.count(1), 0);
    }
  }

  private static void widerNone() {
    CarryAlike wide = Check.withNet("01=,12=");
    wide.walker(0, 0, 2, 1);
    wide.walker(0, 2, 0, 2);
    check.due("all are wide", wide.wider(0), NONE);
    check.due("all are wide", wide.wider(1), NONE);
    CarryAlike alike = Check.withNet("01");
    alike.walker(0, 0, 1, 2);
    alike.walker(0, 1, 0, 2);
    check.due("they may pass", alike.wider(0), NONE);
    alike.load(1, 3);
    check.due("they may not", alike.wider(0), 0);
    CarryAlike alone = Check.withNet("01");
    alone.walker(0, 0, 1, 2);
    check.due("there is but one", alone.wider(0), NONE);
    CarryAlike twelve = Check.withNet("01,12,23,34,56,67,57,05,06,07,45,46");
    twelve.walker(0, 1, 3, 1);
    twelve.walker(0, 2, 0, 4);
    twelve.walker(0, 4, 2, 7);
    check.due("it would take two of twelve", twelve.wider(0), NONE);
    check.due("by none of twelve", twelve.wider(1), NONE);
    check.due("soonest(0) as it is", twelve.soonest(0), 3);
  }

  // ---- promise 19

  private static void enoughUnknown() {
    nothing.refusedFor("enough", CarryAlike::enough, UNKNOWN, MIN, -1, 0, MAX);
    netAlone.refusedFor("enough", CarryAlike::enough, UNKNOWN, -1, 0);
    three.refusedFor("enough", CarryAlike::enough, UNKNOWN, MIN, -1, 3, 5, MAX);
    five.refusedFor("enough", CarryAlike::enough, UNKNOWN, -1, 5, 31);
  }

  /** One of a kind in corner 0 meets one of another kind with a LOAD in a lane. */
  private static CarryAlike meeting(String law, int kind, int other, int load) {
    CarryAlike x = Check.withNet("01" + law);
    Check.walker(x, kind, 0, 0, 5, "1");
    Check.walker(x, other, 1, 0, load, "0");
    return x;
  }

  private static void enoughOfNoneAndTwenty() {
    for (int load = 0; load <= 20; load++) {
      check.due("enough(0) to pass " + load, meeting("", 0, 0, load).enough(0), load);
      check.due("enough(0) by d to pass " + load, meeting(";d", 0, 0, load).enough(0), load % 2 == 0 ? load / 2 : load);
      check.due("enough(0) by w to pass " + load, meeting(";w", 0, 0, load).enough(0), 0);
      check.due("enough(0) to pass a wise one with " + load, meeting("", 0, WISE, load).enough(0), 0);
      check.due("enough(0) to pass a bride with " + load, meeting("", 0, BRIDE, load).enough(0), load <= 13 ? load + 7 : NONE);
    }
    CarryAlike nobody = Check.withNet("01");
    nobody.walker(0, 7, 7, 20);
    check.due("enough(0) without a way", nobody.enough(0), 0);
    CarryAlike wide = Check.withNet("01=");
    Check.walker(wide, 0, 0, 0, 5, "1");
    Check.walker(wide, 0, 1, 0, 20, "0");
    check.due("enough(0) in a wide lane", wide.enough(0), 0);
  }

  private static void enoughOfABride() {
    for (int load = 0; load <= 20; load++) {
      check.due("enough(0) of a bride to pass " + load, meeting("", BRIDE, 0, load).enough(0), load < 7 ? NONE : load - 7);
      check.due("enough(0) of a bride to pass a bride with " + load, meeting("", BRIDE, BRIDE, load).enough(0), load);
      int least = load % 2 == 0 && load / 2 >= 7 ? load / 2 - 7 : load >= 7 ? load - 7 : load >= 4 ? 2 * load - 7 : NONE;
      check.due("enough(0) of a bride by d to pass " + load, meeting(";d", BRIDE, 0, load).enough(0), least);
    }
  }

  /** In the twentieth minute as in the first; behind the end it meets nobody; in its own LOAD nothing is changed. */
  private static void enoughOnTheWholeWay() {
    CarryAlike x = Check.withNet("01");
    Check.walker(x, 0, 0, 0, 3, "00000000000000000001");
    Check.walker(x, 0, 1, 0, 20, "11111111111111111110");
    check.due("in the twentieth minute", x.enough(0), 20);
    check.due("of the other one", x.enough(1), 3);
    check.due("its own LOAD", x.about(0, 3), 3);
    Check.way(x, 0, "0000000000000000000");
    check.due("a way of nineteen", x.enough(0), 0);
    x.minutes(20);
    check.due("all ways at their end", x.enough(0) + x.enough(1), 0);
  }

  /** Whoever the three are: behind two who go back for ever it has to pass the one whom it meets, and no other one. */
  private static void enoughAmongTwoWhoGoBack() {
    for (int code = 0; code < 125; code++) {
      int first = code / 25;
      int second = code / 5 % 5;
      int third = code % 5;
      if (first == second || first == third || second == third) {
        continue;
      }
      CarryAlike x = Check.withNet("01,12");
      for (int i = 0; i < 5; i++) {
        int corner = i == first ? 0 : i == second ? 1 : i == third ? 2 : 7;
        Check.walker(x, 0, corner, 0, 3 + i, i == first ? "1" : i == second ? "0" : i == third ? "22210" : "77");
      }
      String who = " of " + first + ", " + second + ", " + third;
      check.due("enough of the third one" + who, x.enough(third), 3 + first);
      check.due("enough of the second one" + who, x.enough(second), 3 + first);
      check.due("they go back till then" + who, x.minutes(3), 3);
      check.due("enough of the third one just ahead of them" + who, x.enough(third), 3 + first);
      for (int other = 0; other < 5; other++) {
        boolean meetsNobody = other != first && other != second && other != third;
        check.due("enough of " + other + ", who may meet nobody," + who, x.enough(other) == 0 ? 1 : 0, meetsNobody ? 1 : 0);
      }
    }
  }

  // ---- promise 20

  private static void fitsOutside() {
    nothing.refusedFor("fits", CarryAlike::fits, OUTSIDE, MIN, -1, 1, 31, 32, MAX);
    netAlone.refusedFor("fits", CarryAlike::fits, OUTSIDE, -1, 1, 16);
    three.refusedFor("fits", CarryAlike::fits, OUTSIDE, MIN, -1, 8, 9, 15, 16, 32, MAX);
    five.refusedFor("fits", CarryAlike::fits, OUTSIDE, MIN, -1, 15, 23, 27, 29, 30, 31, 32, 33, MAX);
    for (int set = 0; set < 32; set++) {
      check.due("fits(" + set + ") of five", five.another().fits(set) == OUTSIDE ? 1 : 0, Integer.bitCount(set) > 3 ? 1 : 0);
    }
  }

  private static void fitsOfAnEmptySetAndAFullOne() {
    check.due("fits(0) of nobody", nothing.another().fits(0), 1);
    check.due("fits(0) with a net alone", netAlone.another().fits(0), 1);
    check.due("fits(0) of two who go back", meeting("", 0, 0, 6).fits(0), 0);
    check.due("fits(0) of two who pass", meeting("", 0, 0, 5).fits(0), 1);
    CarryAlike x = Check.withNet("01");
    int[] sets = {1, 2, 4, 3, 5, 6, 7, 8, 16, 28, 25};
    for (int i = 0; i < 5; i++) {
      x.walker(i % 4, i, 0, 4 * i);
    }
    int[] due = {10, 10, 10, 100, 100, 100, 1000, 10, 10, 1000, 1000};
    for (int i = 0; i < sets.length; i++) {
      check.due("fits(" + sets[i] + ") of those who meet nobody", x.fits(sets[i]), due[i]);
    }
  }

  /** The other one has to be passed with 0 to 9. */
  private static void fitsOfNoneToNine() {
    for (int load = 0; load <= 20; load++) {
      CarryAlike x = meeting("", 0, 0, load);
      check.due("fits(1) to pass " + load, x.fits(1), load <= 9 ? 1 : 0);
      check.due("fits(2), the first one has 5", x.fits(2), 1);
      check.due("fits(3)", x.fits(3), 10);
      check.due("the LOAD stays", x.about(1, 3), load);
      check.due("fits(1) to pass a bride with " + load, meeting("", 0, BRIDE, load).fits(1), load <= 2 ? 1 : 0);
      check.due("fits(1) by w to pass " + load, meeting(";w", 0, 0, load).fits(1), load == 0 ? 10 : load <= 9 ? 2 : 1);
    }
  }

  /** Nobody ever goes back: each two of five who do, and each set of three at most. */
  private static void fitsAmongTwoWhoGoBack() {
    int[] tens = {1, 10, 100, 1000};
    for (int one = 0; one < 5; one++) {
      for (int other = one + 1; other < 5; other++) {
        CarryAlike x = Check.withNet("01");
        for (int i = 0; i < 5; i++) {
          Check.walker(x, 0, i == one ? 0 : i == other ? 1 : 7, 0, 3 + i, i == one ? "001" : i == other ? "110" : "");
        }
        for (int set = 0; set < 32; set++) {
          int size = Integer.bitCount(set);
          int ofThem = (set >> one & 1) + (set >> other & 1);
          if (size <= 3) {
            check.due("fits(" + set + ") of " + one + " and " + other + " who meet", x.fits(set), ofThem == 0 ? 0 : tens[size - 1]);
          }
        }
      }
    }
  }

  // ---- promise 21

  /** UNKNOWN, then OUTSIDE. */
  private static void sureRefusals() {
    nothing.refused("sure(0, 0)", x -> x.sure(0, 0), UNKNOWN);
    three.refusedFor("sure", (x, number) -> x.sure(number, 1), UNKNOWN, MIN, -1, 3, 5, 31, 32, MAX);
    three.refusedFor("sure(0)", (x, number) -> x.sure(0, number), OUTSIDE, MIN, -1, 8, 15, 32, MAX);
    five.refusedFor("sure(4)", (x, number) -> x.sure(4, number), OUTSIDE, -1, 15, 30, 31, 32);
    five.refused("sure, UNKNOWN ahead of OUTSIDE", x -> x.sure(5, 31), UNKNOWN);
    five.refused("sure, UNKNOWN ahead of OUTSIDE", x -> x.sure(-1, -1), UNKNOWN);
  }

  private static void sureOfNoneAndNine() {
    for (int load = 0; load <= 20; load++) {
      check.due("sure(0, 1) to pass " + load, meeting("", 0, 0, load).sure(0, 1), load <= 9 ? load : NONE);
      check.due("sure(0, 1) to pass a bride with " + load, meeting("", 0, BRIDE, load).sure(0, 1), load <= 2 ? load + 7 : NONE);
    }
    CarryAlike x = Check.withNet("01,12");
    Check.walker(x, 0, 0, 0, 0, "1");
    Check.walker(x, 0, 1, 0, 9, "00");
    Check.walker(x, 0, 7, 0, 3, "");
    Check.walker(x, 0, 7, 0, 4, "");
    Check.walker(x, PORTER, 0, 0, 1, "1");
    check.due("the last one of a full set", x.sure(4, 28), NONE);
    x.load(0, 9);
    check.due("is sure, if the others let it be", x.sure(4, 28), 9);
    check.due("the others are not", x.sure(3, 28), NONE);
    check.due("of the two who must be alike with 9", x.sure(0, 17), 9);
  }

  /** It is not, there are no such ways, or it is not of the set. */
  private static void sureNone() {
    CarryAlike x = meeting("", 0, 0, 6);
    x.walker(0, 7, 7, 0);
    check.due("any LOAD will do", x.sure(0, 3), NONE);
    check.due("no such ways", x.sure(2, 4), NONE);
    check.due("it is not of the set", x.sure(1, 1), NONE);
    check.due("while the other one is sure", x.sure(0, 1), 6);
    check.due("but not of a set that it is not of", x.sure(0, 2), NONE);
    check.due("nor of an empty one", x.sure(0, 0), NONE);
    check.due("with one more, too", x.sure(0, 5), 6);
    check.due("of whom it is not", x.sure(2, 5), NONE);
  }

  // ---- promise 22

  /** OUTSIDE, then STATE. */
  private static void crowdRefusals() {
    for (Twins twins : all) {
      twins.refusedFor("crowd, minutes", (x, number) -> x.crowd(number, 0, 0), OUTSIDE, MIN, -1, 0, 61, MAX);
      twins.refusedFor("crowd, seed", (x, number) -> x.crowd(1, number, 0), OUTSIDE, MIN, -1);
      twins.refusedFor("crowd, what", (x, number) -> x.crowd(60, MAX, number), OUTSIDE, MIN, -1, 3, MAX);
    }
    for (int what = 0; what <= 2; what++) {
      nothing.refusedFor("crowd, " + what, (x, number) -> x.crowd(1, 0, number), STATE, what);
      nothing.refusedFor("crowd, " + what, (x, number) -> x.crowd(60, MAX, number), STATE, what);
    }
  }

  private static void crowdOfNobody() {
    CarryAlike x = netAlone.another();
    for (int seed : new int[] {0, 1, MAX}) {
      check.due("nobody goes back", x.crowd(60, seed, 0), 0);
      check.due("nobody is there", x.crowd(60, seed, 1), 0);
      check.due("nobody draws", x.crowd(60, seed, 2), seed);
    }
  }

  private static BigInteger after(BigInteger seed) {
    return seed.multiply(BigInteger.valueOf(1103515245)).add(BigInteger.valueOf(12345)).mod(BigInteger.ONE.shiftLeft(31));
  }

  /** A draw of one is always to stay, a draw of eight can lead to all other corners. */
  private static void crowdOfNoneToSevenLanes() {
    for (int lanes = 1; lanes <= 7; lanes++) {
      boolean[] drawn = new boolean[8];
      for (int seed = 0; seed < 200; seed++) {
        String net = "37,36,35,34,32,31,30".substring(0, 3 * lanes - 1);
        BigInteger next = after(BigInteger.valueOf(seed));
        int draw = next.intValueExact() / 65536 % (lanes + 1);
        int first = lanes < 5 ? 8 - lanes : 7 - lanes;
        int there = draw == 0 ? 3 : first + draw - 1 + (first < 3 && first + draw - 1 >= 3 ? 1 : 0);
        CarryAlike x = Check.withNet(net);
        x.walker(0, 3, there, 1);
        check.due("crowd(1, " + seed + ", 1) at " + lanes + " lanes", x.crowd(1, seed, 1), 1);
        check.due("crowd(1, " + seed + ", 2) at " + lanes + " lanes", x.crowd(1, seed, 2), next.intValueExact());
        drawn[draw] = true;
      }
      for (int draw = 0; draw <= lanes; draw++) {
        check.due("all is drawn at " + lanes + " lanes", drawn[draw] ? 1 : 0, 1);
      }
    }
    CarryAlike alone = Check.withNet("01");
    alone.walker(0, 3, 3, 1);
    for (int seed = 0; seed < 50; seed++) {
      check.due("who is at no lane stays", alone.crowd(60, seed, 1), 1);
    }
    check.due("and draws", alone.crowd(1, 0, 2), 12345);
  }

  private static void crowdOfTheLeastAndTheGreatestSeed() {
    CarryAlike x = Check.withNet("01");
    x.walker(0, 0, 0, 1);
    for (int seed : new int[] {0, 1, 2, 1 << 30, MAX - 1, MAX}) {
      BigInteger next = BigInteger.valueOf(seed);
      for (int minutes = 1; minutes <= 12; minutes++) {
        next = after(next);
        check.due("crowd(" + minutes + ", " + seed + ", 2)", x.crowd(minutes, seed, 2), next.intValueExact());
      }
    }
  }

  /** Five draw in each of sixty minutes; so many at once or in two parts. */
  private static void crowdOfMostMinutes() {
    CarryAlike x = five.another();
    long before = x.digest();
    for (int seed : new int[] {0, 617, MAX}) {
      BigInteger next = BigInteger.valueOf(seed);
      for (int draw = 0; draw < 300; draw++) {
        next = after(next);
      }
      check.due("crowd(60, " + seed + ", 2)", x.crowd(60, seed, 2), next.intValueExact());
      check.due("the rest behind a part", x.crowd(1, x.crowd(59, seed, 2), 2), next.intValueExact());
    }
    check.due("as it would be: nothing is so", x.digest(), before);
  }

  private static void crowdAtTheirGoals() {
    CarryAlike x = Check.withNet("01=");
    for (int i = 0; i < 5; i++) {
      x.walker(0, 7 - i, 7 - i, i);
      check.due("all are there", x.crowd(60, 5, 1), (2 << i) - 1);
    }
    CarryAlike none = Check.withNet("01=");
    for (int i = 0; i < 5; i++) {
      none.walker(0, 7 - i, 0, i);
    }
    check.due("nobody is there", none.crowd(60, 5, 1), 0);
    CarryAlike wide = Check.withNet("01=");
    CarryAlike narrow = Check.withNet("01");
    CarryAlike alike = Check.withNet("01");
    for (int i = 0; i < 5; i++) {
      wide.walker(0, i % 2, 0, i);
      narrow.walker(0, i % 2, 0, i);
      alike.walker(0, i % 2, 0, 3);
    }
    int times = 0;
    for (int seed = 0; seed < 50; seed++) {
      check.due("nobody goes back in a wide lane", wide.crowd(60, seed, 0), 0);
      check.due("nor who carry alike", alike.crowd(60, seed, 0), 0);
      times += narrow.crowd(60, seed, 0);
    }
    check.due("others do", times > 50 ? 1 : 0, 1);
  }

  /** All five draw in their order, then they go; WAYS do not matter, LOADS do; two who go back stay. */
  private static void crowdByNumberFromWhereTheyAre() {
    CarryAlike x = Check.withNet("01,12,20=");
    int[] corners = {0, 1, 2, 1, 0};
    int[] loads = {1, 2, 1, 2, 3};
    for (int i = 0; i < 5; i++) {
      Check.walker(x, 0, corners[i], i % 3, loads[i], "" + corners[i]);
    }
    for (int seed = 0; seed < 100; seed++) {
      int[] at = corners.clone();
      BigInteger next = BigInteger.valueOf(seed);
      int times = 0;
      for (int minute = 0; minute < 20; minute++) {
        int[] want = new int[5];
        for (int i = 0; i < 5; i++) {
          next = after(next);
          int draw = next.intValueExact() / 65536 % 3;
          int[] choices = {at[i], at[i] == 0 ? 1 : 0, at[i] == 2 ? 1 : 2};
          want[i] = choices[draw];
        }
        times += goThreeCorners(at, want, loads);
      }
      int there = 0;
      for (int i = 0; i < 5; i++) {
        there |= at[i] == i % 3 ? 1 << i : 0;
      }
      check.due("crowd(20, " + seed + ", 0)", x.crowd(20, seed, 0), times);
      check.due("crowd(20, " + seed + ", 1)", x.crowd(20, seed, 1), there);
      check.due("crowd(20, " + seed + ", 2)", x.crowd(20, seed, 2), next.intValueExact());
    }
  }

  /** A minute among three corners, of which 2 and 0 are joined by a wide lane: how often two go back. */
  private static int goThreeCorners(int[] at, int[] want, int[] loads) {
    int times = 0;
    int[] then = want.clone();
    for (int i = 0; i < 5; i++) {
      for (int j = i + 1; j < 5; j++) {
        boolean against = at[i] != at[j] && want[i] == at[j] && want[j] == at[i] && at[i] + at[j] != 2;
        if (against && loads[i] != loads[j]) {
          times++;
          then[i] = at[i];
          then[j] = at[j];
        }
      }
    }
    System.arraycopy(then, 0, at, 0, 5);
    return times;
  }
}
