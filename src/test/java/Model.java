import java.util.ArrayList;
import java.util.Arrays;
import java.util.HashMap;
import java.util.LinkedHashMap;
import java.util.List;
import java.util.Map;

/** The document once more, by brute force and with the library: slow, and made apart from CarryAlike. */
final class Model {
  static final int NONE = -1, UNKNOWN = -101, OUTSIDE = -102, STATE = -103, FULL = -104;
  private static final String SIGNS = "01234567,=;dw";

  private static final class Person {
    final int kind;
    final int goal;
    int corner;
    int load;
    String left = "";

    Person(int kind, int corner, int goal, int load) {
      this.kind = kind;
      this.corner = corner;
      this.goal = goal;
      this.load = load;
    }

    Person copy() {
      Person other = new Person(kind, corner, goal, load);
      other.left = left;
      return other;
    }

    int carries() {
      return kind == 2 ? load + 7 : load;
    }
  }

  private String page = "";
  private String net = null;
  private String[] lanes = {};
  private boolean doubles = false;
  private boolean empties = false;
  private List<Person> people = new ArrayList<>();
  private int[] heaps = new int[8];
  private int gone = 0;
  private List<Person> keptPeople = null;
  private int[] keptHeaps = null;
  private int keptGone = 0;
  private int nets = 0;
  private int plans = 0;

  // ---- texts

  int letters(long w) {
    StringBuilder more = new StringBuilder();
    boolean ended = false;
    for (int i = 0; i < 8; i++, w >>>= 8) {
      int code = (int) (w & 0xff);
      if (code > 126 || ended && code > 0) {
        return OUTSIDE;
      }
      ended |= code == 0;
      if (code > 0) {
        more.append((char) code);
      }
    }
    if (page.length() + more.length() > 50) {
      return FULL;
    }
    page += more;
    return page.length();
  }

  int blank() {
    int had = page.length();
    page = "";
    return had;
  }

  private static boolean isNet(String text) {
    if (!text.matches("[0-7]{2}=?(,[0-7]{2}=?){0,11}(;(d|w|dw))?")) {
      return false;
    }
    List<String> seen = new ArrayList<>();
    for (String lane : text.split(";")[0].split(",")) {
      char[] two = {lane.charAt(0), lane.charAt(1)};
      Arrays.sort(two);
      if (two[0] == two[1] || seen.contains(new String(two))) {
        return false;
      }
      seen.add(new String(two));
    }
    return true;
  }

  /** Two letters more are enough for any beginning of a NET to become one, but for a corner that is joined to all others. */
  private static boolean beginsANet(String text) {
    if (isNet(text) || endsInFirstDigit(text)) {
      return true;
    }
    for (char a : SIGNS.toCharArray()) {
      if (isNet(text + a)) {
        return true;
      }
      for (char b : "01234567".toCharArray()) {
        if (isNet(text + a + b)) {
          return true;
        }
      }
    }
    return false;
  }

  /** The first digit of a LANE may be any corner. */
  private static boolean endsInFirstDigit(String text) {
    if (!text.matches(".*,[0-7]")) {
      return false;
    }
    String before = text.substring(0, text.length() - 2);
    return isNet(before) && before.indexOf(';') < 0 && before.split(",").length < 12;
  }

  int fault(int sort) {
    if (sort < 0 || sort > 1) {
      return OUTSIDE;
    }
    for (int length = 1; length <= page.length(); length++) {
      String start = page.substring(0, length);
      if (!(sort == 0 ? beginsANet(start) : start.matches("[0-7]{1,20}"))) {
        return length - 1;
      }
    }
    return page.length();
  }

  int net() {
    if (!isNet(page)) {
      return STATE;
    }
    net = page;
    lanes = net.split(";")[0].split(",");
    doubles = net.indexOf('d') >= 0;
    empties = net.indexOf('w') >= 0;
    page = "";
    people = new ArrayList<>();
    heaps = new int[8];
    gone = 0;
    keptPeople = null;
    nets++;
    return lanes.length;
  }

  int lane(int lane, int what) {
    if (lane < 0 || lane >= lanes.length) {
      return UNKNOWN;
    }
    String one = lanes[lane];
    return what == 0 || what == 1 ? one.charAt(what) - '0' : what == 2 ? one.length() - 2 : OUTSIDE;
  }

  /** The LANE between two corners; NONE. */
  private int between(int a, int b) {
    for (int lane = 0; lane < lanes.length; lane++) {
      int one = lane(lane, 0);
      int other = lane(lane, 1);
      if (one == a && other == b || one == b && other == a) {
        return lane;
      }
    }
    return NONE;
  }

  // ---- walkers

  private boolean is(int walker) {
    return walker >= 0 && walker < people.size();
  }

  int walker(int kind, int corner, int goal, int load) {
    if (corner < 0 || corner > 7 || goal < 0 || goal > 7) {
      return UNKNOWN;
    }
    if (kind < 0 || kind > 3 || load < 0 || load > 20) {
      return OUTSIDE;
    }
    if (net == null) {
      return STATE;
    }
    if (people.size() == 5) {
      return FULL;
    }
    people.add(new Person(kind, corner, goal, load));
    return people.size() - 1;
  }

  int about(int walker, int what) {
    if (!is(walker)) {
      return UNKNOWN;
    }
    Person one = people.get(walker);
    int next = one.left.isEmpty() ? NONE : one.left.charAt(0) - '0';
    int[] all = {one.kind, one.corner, one.goal, one.load, one.carries(), one.left.length(), next};
    return what < 0 || what > 6 ? OUTSIDE : all[what];
  }

  int as(int walker, int kind) {
    if (!is(walker)) {
      return UNKNOWN;
    }
    if (kind < 0 || kind > 3) {
      return OUTSIDE;
    }
    int own = people.get(walker).kind;
    return kind == 0 || kind == own || kind == 1 && own == 3 ? walker : NONE;
  }

  int way(int walker) {
    if (!is(walker)) {
      return UNKNOWN;
    }
    if (!page.matches("[0-7]{1,20}")) {
      return STATE;
    }
    String whole = people.get(walker).corner + page;
    for (int i = 1; i < whole.length(); i++) {
      int a = whole.charAt(i - 1) - '0';
      int b = whole.charAt(i) - '0';
      if (a != b && between(a, b) == NONE) {
        return STATE;
      }
    }
    people.get(walker).left = page;
    return blank();
  }

  int load(int walker, int v) {
    if (!is(walker)) {
      return UNKNOWN;
    }
    if (v < 0 || v > 20) {
      return OUTSIDE;
    }
    int was = people.get(walker).load;
    people.get(walker).load = v;
    return was;
  }

  private boolean mayPass(Person a, Person b) {
    int x = Math.min(a.carries(), b.carries());
    int y = Math.max(a.carries(), b.carries());
    return x == y || doubles && y == 2 * x || empties && x == 0
        || a.kind == 3 && b.carries() == 0 || b.kind == 3 && a.carries() == 0;
  }

  int pass(int a, int b) {
    return !is(a) || !is(b) || a == b ? UNKNOWN : mayPass(people.get(a), people.get(b)) ? 1 : 0;
  }

  int heap(int corner, int v) {
    if (corner < 0 || corner > 7) {
      return UNKNOWN;
    }
    if (v < 0 || v > 99) {
      return OUTSIDE;
    }
    if (net == null) {
      return STATE;
    }
    int was = heaps[corner];
    heaps[corner] = v;
    return was;
  }

  int take(int walker, int pounds) {
    if (!is(walker)) {
      return UNKNOWN;
    }
    if (Math.abs((long) pounds) > 20) {
      return OUTSIDE;
    }
    Person one = people.get(walker);
    int load = one.load + pounds;
    int heap = heaps[one.corner] - pounds;
    if (one.kind == 0 || one.kind == 2 || load < 0 || load > 20 || heap < 0 || heap > 99) {
      return STATE;
    }
    heaps[one.corner] = heap;
    one.load = load;
    return load;
  }

  // ---- mornings

  /** The pairs that go back, of people who want to be at these corners; the others are there then. */
  private List<int[]> minute(List<Person> all, int[] want, int widened) {
    List<int[]> pairs = new ArrayList<>();
    boolean[] back = new boolean[all.size()];
    for (int i = 0; i < all.size(); i++) {
      for (int j = i + 1; j < all.size(); j++) {
        Person a = all.get(i);
        Person b = all.get(j);
        int lane = between(a.corner, b.corner);
        if (lane >= 0 && want[i] == b.corner && want[j] == a.corner && lane(lane, 2) == 0 && lane != widened && !mayPass(a, b)) {
          pairs.add(new int[] {i, j});
          back[i] = true;
          back[j] = true;
        }
      }
    }
    for (int i = 0; i < all.size(); i++) {
      if (!back[i]) {
        all.get(i).corner = want[i];
      } else {
        want[i] = NONE;
      }
    }
    return pairs;
  }

  private List<int[]> minuteOnWays(List<Person> all) {
    int[] want = new int[all.size()];
    for (int i = 0; i < want.length; i++) {
      Person one = all.get(i);
      want[i] = one.left.isEmpty() ? one.corner : one.left.charAt(0) - '0';
    }
    List<int[]> pairs = minute(all, want, NONE);
    for (int i = 0; i < want.length; i++) {
      Person one = all.get(i);
      if (want[i] != NONE && !one.left.isEmpty()) {
        one.left = one.left.substring(1);
      }
    }
    return pairs;
  }

  private List<Person> copy(List<Person> all) {
    List<Person> others = new ArrayList<>();
    for (Person one : all) {
      others.add(one.copy());
    }
    return others;
  }

  int minutes(int minutes) {
    if (minutes < 1 || minutes > 60) {
      return OUTSIDE;
    }
    if (net == null) {
      return STATE;
    }
    int times = 0;
    for (int i = 0; i < minutes; i++) {
      times += minuteOnWays(people).size();
    }
    gone += minutes;
    return times;
  }

  int first(int what) {
    if (what < 0 || what > 2) {
      return OUTSIDE;
    }
    List<Person> all = copy(people);
    for (int minute = 1; minute <= 60; minute++) {
      List<int[]> pairs = minuteOnWays(all);
      if (!pairs.isEmpty()) {
        return what == 0 ? minute : pairs.get(0)[what - 1];
      }
    }
    return NONE;
  }

  private boolean mayPlan() {
    return people.size() >= 1 && people.size() <= 3 && plans < 40;
  }

  private List<Integer> corners(List<Person> all) {
    List<Integer> where = new ArrayList<>();
    for (Person one : all) {
      where.add(one.corner);
    }
    return where;
  }

  /** All places for all that can come a minute later, the least first. */
  private List<List<Integer>> later(List<Integer> now, int widened) {
    List<List<Integer>> all = new ArrayList<>();
    int n = now.size();
    for (int code = 0; code < 1 << 3 * n; code++) {
      int[] want = new int[n];
      List<Person> moved = copy(people);
      boolean can = true;
      for (int i = 0; i < n && can; i++) {
        want[i] = code >> 3 * (n - 1 - i) & 7;
        moved.get(i).corner = now.get(i);
        can = want[i] == now.get(i) || between(now.get(i), want[i]) != NONE;
      }
      if (can && minute(moved, want, widened).isEmpty()) {
        all.add(corners(moved));
      }
    }
    return all;
  }

  /** Forward, from where all are: in how many minutes all can be anywhere. */
  private Map<List<Integer>, Integer> reach(List<Integer> start, int widened, int most) {
    Map<List<Integer>, Integer> when = new LinkedHashMap<>();
    when.put(start, 0);
    List<List<Integer>> edge = List.of(start);
    for (int minute = 1; minute <= most && !edge.isEmpty(); minute++) {
      List<List<Integer>> next = new ArrayList<>();
      for (List<Integer> now : edge) {
        for (List<Integer> then : later(now, widened)) {
          if (when.putIfAbsent(then, minute) == null) {
            next.add(then);
          }
        }
      }
      edge = next;
    }
    return when;
  }

  private int soonestFrom(List<Integer> start, int widened, int most) {
    List<Integer> goals = new ArrayList<>();
    for (Person one : people) {
      goals.add(one.goal);
    }
    Integer when = reach(start, widened, most).get(goals);
    return when == null ? NONE : when;
  }

  int soonest(int what) {
    if (what < 0 || what > 3) {
      return OUTSIDE;
    }
    if (!mayPlan()) {
      return STATE;
    }
    plans++;
    int fewest = soonestFrom(corners(people), NONE, 30);
    if (what == 0) {
      return fewest;
    }
    if (fewest < 1 || what > people.size()) {
      return NONE;
    }
    for (List<Integer> step : later(corners(people), NONE)) {
      if (soonestFrom(step, NONE, fewest - 1) == fewest - 1) {
        return step.get(what - 1);
      }
    }
    throw new IllegalStateException("no first step");
  }

  int wider(int what) {
    if (what < 0 || what > 1) {
      return OUTSIDE;
    }
    if (!mayPlan()) {
      return STATE;
    }
    plans++;
    int now = soonestFrom(corners(people), NONE, 30);
    int best = now == NONE ? 31 : now;
    int by = NONE;
    for (int lane = 0; lane < lanes.length; lane++) {
      int then = lane(lane, 2) == 1 ? NONE : soonestFrom(corners(people), lane, 30);
      if (then != NONE && then < best) {
        best = then;
        by = lane;
      }
    }
    return what == 0 || by == NONE ? by : best;
  }

  int enough(int walker) {
    if (!is(walker)) {
      return UNKNOWN;
    }
    for (int load = 0; load <= 20; load++) {
      List<Person> all = copy(people);
      all.get(walker).load = load;
      boolean never = true;
      for (int minute = 0; minute < 60; minute++) {
        for (int[] pair : minuteOnWays(all)) {
          never &= pair[0] != walker && pair[1] != walker;
        }
      }
      if (never) {
        return load;
      }
    }
    return NONE;
  }

  private boolean isSet(int set) {
    return set >= 0 && set < 1 << people.size() && Integer.bitCount(set) <= 3;
  }

  /** The LOADS of all in each way that fits. */
  private List<int[]> fitting(int set) {
    List<int[]> ways = new ArrayList<>();
    for (int code = 0; code < Math.pow(10, Integer.bitCount(set)); code++) {
      List<Person> all = copy(people);
      int rest = code;
      int[] loads = new int[all.size()];
      for (int i = 0; i < all.size(); i++) {
        if ((set >> i & 1) == 1) {
          all.get(i).load = rest % 10;
          rest /= 10;
        }
        loads[i] = all.get(i).load;
      }
      boolean never = true;
      for (int minute = 0; minute < 21 && never; minute++) {
        never = minuteOnWays(all).isEmpty();
      }
      if (never) {
        ways.add(loads);
      }
    }
    return ways;
  }

  int fits(int set) {
    return isSet(set) ? fitting(set).size() : OUTSIDE;
  }

  int sure(int walker, int set) {
    if (!is(walker)) {
      return UNKNOWN;
    }
    if (!isSet(set)) {
      return OUTSIDE;
    }
    Map<Integer, Integer> seen = new HashMap<>();
    for (int[] loads : fitting(set)) {
      seen.merge(loads[walker], 1, Integer::sum);
    }
    return (set >> walker & 1) == 1 && seen.size() == 1 ? seen.keySet().iterator().next() : NONE;
  }

  int crowd(int minutes, int seed, int what) {
    if (minutes < 1 || minutes > 60 || seed < 0 || what < 0 || what > 2) {
      return OUTSIDE;
    }
    if (net == null) {
      return STATE;
    }
    List<Person> all = copy(people);
    long s = seed;
    int times = 0;
    for (int minute = 0; minute < minutes; minute++) {
      int[] want = new int[all.size()];
      for (int i = 0; i < want.length; i++) {
        List<Integer> choices = new ArrayList<>();
        choices.add(all.get(i).corner);
        for (int corner = 0; corner < 8; corner++) {
          if (between(all.get(i).corner, corner) != NONE) {
            choices.add(corner);
          }
        }
        s = Math.floorMod(1103515245L * s + 12345, 1L << 31);
        want[i] = choices.get((int) (s / 65536 % choices.size()));
      }
      times += minute(all, want, NONE).size();
    }
    int there = 0;
    for (int i = 0; i < all.size(); i++) {
      there |= all.get(i).corner == all.get(i).goal ? 1 << i : 0;
    }
    return what == 0 ? times : what == 1 ? there : (int) s;
  }

  // ---- what is told of all

  int image() {
    if (net == null) {
      return STATE;
    }
    keptPeople = copy(people);
    keptHeaps = heaps.clone();
    keptGone = gone;
    return gone;
  }

  int restore() {
    if (keptPeople == null) {
      return STATE;
    }
    people = copy(keptPeople);
    heaps = keptHeaps.clone();
    gone = keptGone;
    return gone;
  }

  int count(int what) {
    int wide = 0;
    for (String lane : lanes) {
      wide += lane.length() - 2;
    }
    int there = 0;
    for (Person one : people) {
      there += one.corner == one.goal ? 1 : 0;
    }
    int[] all = {lanes.length, wide, people.size(), there, gone, page.length(), nets, plans, doubles ? 1 : 0, empties ? 1 : 0};
    return what < 0 || what > 9 ? OUTSIDE : all[what];
  }

  long digest() {
    List<Integer> numbers = new ArrayList<>();
    for (int lane = 0; lane < count(0); lane++) {
      numbers.addAll(List.of(lane(lane, 0), lane(lane, 1), lane(lane, 2)));
    }
    for (int walker = 0; walker < people.size(); walker++) {
      for (int what = 0; what <= 6; what++) {
        numbers.add(about(walker, what));
      }
      for (int other = 0; other < people.size(); other++) {
        if (other != walker) {
          numbers.add(pass(walker, other));
        }
      }
      numbers.add(enough(walker));
    }
    for (int corner = 0; net != null && corner < 8; corner++) {
      numbers.add(heaps[corner]);
    }
    numbers.addAll(List.of(first(0), first(1), first(2), fits((1 << Math.min(3, people.size())) - 1)));
    for (char letter : page.toCharArray()) {
      numbers.add((int) letter);
    }
    for (int what = 0; what <= 9; what++) {
      numbers.add(count(what));
    }
    long h = 617;
    for (int number : numbers) {
      h = 31 * h + number;
    }
    return h;
  }
}
