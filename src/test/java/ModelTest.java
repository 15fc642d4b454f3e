import java.util.ArrayList;
import java.util.List;
import java.util.Random;

/** Long runs of calls by a fixed seed, each answer against that of the model. */
public final class ModelTest {
  private static final Check check = new Check("ModelTest");
  private static Random random;
  private static CarryAlike x;
  private static Model model;

  public static void main(String[] args) {
    int runs = args.length > 0 ? Integer.parseInt(args[0]) : 150;
    long firstSeed = args.length > 1 ? Long.parseLong(args[1]) : 1;
    for (int run = 0; run < runs; run++) {
      random = new Random(firstSeed + run);
      x = new CarryAlike();
      model = new Model();
      for (int call = 0; call < 100; call++) {
        String said = "run " + run + ", call " + call + ": ";
        call(said);
        if (call % 20 == 19) {
          check.due(said + "digest()", x.digest(), model.digest());
        }
      }
    }
    check.end();
  }

  private static int one(int... numbers) {
    return numbers[random.nextInt(numbers.length)];
  }

  /** A number from 0 on below most, now and then one that is not. */
  private static int below(int most) {
    return random.nextInt(25) == 0 ? one(-1, most, Integer.MIN_VALUE, Integer.MAX_VALUE, most + 7) : random.nextInt(most);
  }

  private static int someone() {
    return random.nextInt(20) == 0 ? below(6) : random.nextInt(Math.max(1, model.count(2)));
  }

  private static int someSet() {
    return random.nextInt(20) == 0 ? below(32) : random.nextInt(1 << model.count(2));
  }

  /** Nets of few corners are those in which walkers meet. */
  private static String netText() {
    if (random.nextInt(10) == 0) {
      return starText();
    }
    int corners = one(2, 3, 4, 4, 5, 6, 7, 8, 8);
    List<String> free = new ArrayList<>();
    for (int a = 0; a < corners; a++) {
      for (int b = 0; b < corners; b++) {
        free.add("" + a + b);
      }
    }
    StringBuilder text = new StringBuilder();
    int lanes = 1 + random.nextInt(random.nextBoolean() ? 12 : corners);
    boolean mayFail = random.nextInt(12) == 0;
    for (int i = 0; i < lanes && !free.isEmpty(); i++) {
      String lane = random.nextInt(3) == 0 && i < corners - 1 ? "" + i + (i + 1) : free.get(random.nextInt(free.size()));
      boolean twice = lane.charAt(0) == lane.charAt(1) || text.indexOf(lane) >= 0
          || text.indexOf("" + lane.charAt(1) + lane.charAt(0)) >= 0;
      if (!twice || mayFail) {
        text.append(text.length() == 0 ? "" : ",").append(lane).append(random.nextInt(6) == 0 ? "=" : "");
      }
    }
    text.append(new String[] {"", "", ";d", ";w", ";dw"}[random.nextInt(5)]);
    if (random.nextInt(12) == 0 && text.length() > 0) {
      text.setCharAt(random.nextInt(text.length()), "01234567,=;dw8 ~".charAt(random.nextInt(16)));
    }
    return text.toString();
  }

  /** One corner joined to all others, and perhaps a LANE or two more, which may be told twice. */
  private static String starText() {
    int middle = random.nextInt(8);
    StringBuilder text = new StringBuilder();
    for (int i = 1; i < 8; i++) {
      int other = (middle + 3 * i) % 8;
      text.append(random.nextBoolean() ? "" + middle + other : "" + other + middle);
      text.append(random.nextInt(9) == 0 ? "=," : ",");
    }
    for (int i = random.nextInt(3); i > 0; i--) {
      text.append(random.nextBoolean() ? middle : random.nextInt(8)).append(random.nextInt(8)).append(',');
    }
    if (random.nextInt(4) == 0) {
      return text.append(middle).toString();
    }
    text.setLength(text.length() - 1);
    return text.append(random.nextBoolean() ? "" : ";dw").toString();
  }

  private static String wayText(int walker) {
    int here = Math.max(0, model.about(walker, 1));
    StringBuilder text = new StringBuilder();
    int length = one(1, 2, 3, 4, 5, 6, 8, 12, 20, 20);
    while (text.length() < length) {
      int there = random.nextInt(8);
      boolean joined = there == here && random.nextInt(3) == 0 || random.nextInt(200) == 0;
      for (int lane = 0; lane < model.count(0); lane++) {
        int a = model.lane(lane, 0);
        int b = model.lane(lane, 1);
        joined |= a == here && b == there || a == there && b == here;
      }
      if (joined || random.nextInt(60) == 0) {
        text.append(joined ? there : here);
        here = joined ? there : here;
      }
    }
    if (random.nextInt(30) == 0) {
      text.append(one('8', '0', ',', 1));
    }
    return text.toString();
  }

  private static void write(String said, String text) {
    if (random.nextInt(15) != 0) {
      check.due(said + "blank()", x.blank(), model.blank());
    }
    for (int at = 0; at < text.length(); at += 8) {
      letters(said, Check.code(text.substring(at, Math.min(at + 8, text.length()))));
    }
  }

  private static void letters(String said, long w) {
    check.due(said + "letters(" + w + ")", x.letters(w), model.letters(w));
  }

  private static void call(String said) {
    if (model.count(6) == 0 || random.nextInt(60) == 0) {
      newNet(said);
    } else if (random.nextInt(3) == 0) {
      texts(said);
    } else if (random.nextInt(3) == 0) {
      walkers(said);
    } else {
      mornings(said);
    }
  }

  private static void newNet(String said) {
    write(said, netText());
    check.due(said + "fault(0)", x.fault(0), model.fault(0));
    check.due(said + "fault(1)", x.fault(1), model.fault(1));
    check.due(said + "net()", x.net(), model.net());
    for (int i = random.nextInt(6); i > 0; i--) {
      newWalker(said);
    }
  }

  private static void newWalker(String said) {
    int corners = random.nextBoolean() ? 8 : 3;
    int kind = below(4);
    int corner = below(corners);
    int goal = below(corners);
    int load = random.nextBoolean() ? below(21) : random.nextInt(4);
    check.due(said + "walker()", x.walker(kind, corner, goal, load), model.walker(kind, corner, goal, load));
  }

  private static void texts(String said) {
    int walker = someone();
    switch (random.nextInt(10)) {
      case 0:
        letters(said, random.nextLong() >>> 8 * random.nextInt(8) & 0x7f7f7f7f7f7f7f7fL);
        check.due(said + "fault(0)", x.fault(0), model.fault(0));
        break;
      case 1:
        int sort = below(2);
        check.due(said + "fault(" + sort + ")", x.fault(sort), model.fault(sort));
        break;
      case 2:
        int lane = below(12);
        int what = below(3);
        check.due(said + "lane(" + lane + ", " + what + ")", x.lane(lane, what), model.lane(lane, what));
        break;
      case 3:
        check.due(said + "net()", x.net(), model.net());
        break;
      default:
        write(said, wayText(walker));
        check.due(said + "fault(1)", x.fault(1), model.fault(1));
        check.due(said + "way(" + walker + ")", x.way(walker), model.way(walker));
        break;
    }
  }

  private static void walkers(String said) {
    int walker = someone();
    int other = someone();
    int number = below(21);
    switch (random.nextInt(10)) {
      case 0:
        newWalker(said);
        break;
      case 1:
      case 2:
        int load = random.nextBoolean() ? random.nextInt(4) : number;
        check.due(said + "load(" + walker + ", " + load + ")", x.load(walker, load), model.load(walker, load));
        break;
      case 3:
        int what = below(7);
        check.due(said + "about(" + walker + ", " + what + ")", x.about(walker, what), model.about(walker, what));
        break;
      case 4:
        int kind = below(4);
        check.due(said + "as(" + walker + ", " + kind + ")", x.as(walker, kind), model.as(walker, kind));
        break;
      case 5:
        int corner = below(8);
        int heap = below(100);
        check.due(said + "heap(" + corner + ", " + heap + ")", x.heap(corner, heap), model.heap(corner, heap));
        break;
      case 6:
      case 7:
        int pounds = random.nextBoolean() ? number : -number;
        check.due(said + "take(" + walker + ", " + pounds + ")", x.take(walker, pounds), model.take(walker, pounds));
        break;
      default:
        check.due(said + "pass(" + walker + ", " + other + ")", x.pass(walker, other), model.pass(walker, other));
        break;
    }
  }

  private static void mornings(String said) {
    int walker = someone();
    int set = someSet();
    int what = below(3);
    int minutes = random.nextInt(10) == 0 ? below(61) : 1 + random.nextInt(4);
    switch (random.nextInt(12)) {
      case 0:
      case 1:
        check.due(said + "minutes(" + minutes + ")", x.minutes(minutes), model.minutes(minutes));
        break;
      case 2:
        check.due(said + "first(" + what + ")", x.first(what), model.first(what));
        break;
      case 3:
        int which = below(4);
        check.due(said + "soonest(" + which + ")", x.soonest(which), model.soonest(which));
        break;
      case 4:
        check.due(said + "wider(" + what + ")", x.wider(what), model.wider(what));
        break;
      case 5:
        check.due(said + "enough(" + walker + ")", x.enough(walker), model.enough(walker));
        break;
      case 6:
        check.due(said + "fits(" + set + ")", x.fits(set), model.fits(set));
        break;
      case 7:
        check.due(said + "sure(" + walker + ", " + set + ")", x.sure(walker, set), model.sure(walker, set));
        break;
      case 8:
        int seed = random.nextInt() & (random.nextInt(20) == 0 ? -1 : Integer.MAX_VALUE);
        int some = below(61);
        check.due(said + "crowd(" + some + ", " + seed + ", " + what + ")", x.crowd(some, seed, what), model.crowd(some, seed, what));
        break;
      case 9:
        check.due(said + "image()", x.image(), model.image());
        break;
      case 10:
        check.due(said + "restore()", x.restore(), model.restore());
        break;
      default:
        int number = below(10);
        check.due(said + "count(" + number + ")", x.count(number), model.count(number));
        break;
    }
  }
}
