import java.util.ArrayList;
import java.util.Arrays;
import java.util.List;
import java.util.TreeSet;
import java.util.function.IntPredicate;
import java.util.regex.Matcher;
import java.util.regex.Pattern;

/**
 * The document written a second time, slowly and otherwise: sets are sets, ways are tried one by
 * one, texts are cut by a pattern. It shares nothing with the program but the document.
 */
public final class Model {
  /** A finding, thrown; every act is asked through ask(), which counts it. */
  private static final class Finding extends RuntimeException {
    private static final long serialVersionUID = 1L;
    private final int which;

    private Finding(int which) {
      super(null, null, false, false);
      this.which = which;
    }
  }

  private static final class Fault extends RuntimeException {
    private static final long serialVersionUID = 1L;
    private final int place;

    private Fault(int place) {
      super(null, null, false, false);
      this.place = place;
    }
  }

  private static final class Home {
    private int kind;
    private Integer stair;
    private TreeSet<Integer> leave = new TreeSet<>();
    private TreeSet<Integer> foes = new TreeSet<>();
    private int from = 6;
    private int to = 22;
    private int sleepers = 2;
    private int bed;

    private Home copy() {
      Home c = new Home();
      c.kind = kind;
      c.stair = stair;
      c.leave = new TreeSet<>(leave);
      c.foes = new TreeSet<>(foes);
      c.from = from;
      c.to = to;
      c.sleepers = sleepers;
      c.bed = bed;
      return c;
    }
  }

  private static final class World {
    private final List<Home> homes = new ArrayList<>();
    private final TreeSet<Integer> open = new TreeSet<>();
    private final Integer[] spots = new Integer[10];
    private int z = 1;

    private World copy() {
      World c = new World();
      for (Home h : homes) {
        c.homes.add(h.copy());
      }
      c.open.addAll(open);
      System.arraycopy(spots, 0, c.spots, 0, 10);
      c.z = z;
      return c;
    }

    private int n() {
      return homes.size();
    }
  }

  private static final String[] KINDS =
      {"house", "strict", "open", "inn", "guard", "sick", "quarrel"};

  private World w = new World();
  private World kept = null;
  private final List<Integer> tape = new ArrayList<>();
  private final int[][] sheets = new int[4][];
  private final int[] widths = new int[4];
  private final int[] found = new int[7];

  /** The answer of a call by its name. */
  public int ask(String name, int... a) {
    try {
      return act(name, a);
    } catch (Finding f) {
      found[f.which]++;
      return -1000001 - f.which;
    }
  }

  private static void beyond(boolean is) {
    finding(is, 0);
  }

  private static void finding(boolean is, int which) {
    if (is) {
      throw new Finding(which);
    }
  }

  private static boolean out(int v, int low, int high) {
    return v < low || v > high;
  }

  private void house(int h) {
    beyond(out(h, 0, w.n() - 1));
  }

  private void room(int r) {
    beyond(out(r, 0, 2 * w.n() - 1));
  }

  private void clock(int c) {
    beyond(out(c, 0, 23));
  }

  private int act(String name, int[] a) {
    switch (name) {
      case "house": case "of": case "change": case "stair": case "name": case "door":
      case "lets": case "letting": case "joined":
        return houses(name, a);
      case "way": case "noise": case "step": case "reach": case "off": case "hours":
      case "latest": case "best":
        return ways(name, a);
      case "worth": case "helps": case "needs": case "law": case "quarrel": case "ring":
      case "share":
        return leaves(name, a);
      case "beds": case "swaps": case "fire": case "open": case "shift": case "gossip":
      case "seed":
        return nights(name, a);
      default:
        return others(name, a);
    }
  }

  // ---- houses

  private int houses(String name, int[] a) {
    switch (name) {
      case "house":
        beyond(out(a[0], 0, 6));
        finding(w.n() == 8, 1);
        Home made = new Home();
        made.kind = a[0];
        made.bed = w.n();
        w.homes.add(made);
        return w.n() - 1;
      case "of":
        house(a[0]);
        beyond(out(a[1], 0, 7));
        return told(w.homes.get(a[0]), a[1]);
      case "change":
        return change(a[0], a[1], a[2]);
      case "stair":
        house(a[0]);
        beyond(out(a[1], -1, 1));
        beyond(a[1] == 0 && a[0] == 0 || a[1] == 1 && a[0] == 7);
        int led = told(w.homes.get(a[0]), 1);
        w.homes.get(a[0]).stair = a[1] == -1 ? null : Integer.valueOf(a[1] == 0 ? a[0] - 1 : a[0] + 1);
        return led;
      case "name":
        house(a[0]);
        beyond(out(a[1], 0, 1) || out(a[2], 0, 7));
        TreeSet<Integer> set = a[1] == 0 ? w.homes.get(a[0]).leave : w.homes.get(a[0]).foes;
        return (a[3] != 0 ? !set.add(a[2]) : set.remove(a[2])) ? 1 : 0;
      case "door":
        beyond(out(a[0], 0, 13));
        return (a[1] != 0 ? !w.open.add(a[0]) : w.open.remove(a[0])) ? 1 : 0;
      case "lets":
        house(a[0]);
        house(a[1]);
        clock(a[2]);
        return lets(w, a[0], a[1], a[2]) ? 1 : 0;
      case "letting":
        house(a[0]);
        clock(a[1]);
        return set(w.n(), h -> lets(w, h, a[0], a[1]));
      default:
        room(a[0]);
        return set(2 * w.n(), r -> joins(w, a[0], r));
    }
  }

  private static int set(int bound, IntPredicate has) {
    int bits = 0;
    for (int i = 0; i < bound; i++) {
      if (has.test(i)) {
        bits += 1 << i;
      }
    }
    return bits;
  }

  private static int told(Home h, int what) {
    int[] all = {h.kind, h.stair == null ? -1 : h.stair, set(8, f -> h.leave.contains(f)),
      h.from, h.to, set(8, f -> h.foes.contains(f)), h.sleepers, h.bed};
    return all[what];
  }

  private int change(int house, int what, int v) {
    house(house);
    Home h = w.homes.get(house);
    int[] most = {6, -1, -1, 23, 23, -1, 9, w.n() - 1};
    beyond(out(what, 0, 7));
    beyond(out(v, 0, most[what]));
    int was = told(h, what);
    h.kind = what == 0 ? v : h.kind;
    h.from = what == 3 ? v : h.from;
    h.to = what == 4 ? v : h.to;
    h.sleepers = what == 6 ? v : h.sleepers;
    h.bed = what == 7 ? v : h.bed;
    return was;
  }

  private static boolean hours(Home h, int c) {
    for (int at = h.from;; at = (at + 1) % 24) {
      if (at == c) {
        return true;
      }
      if (at == h.to) {
        return false;
      }
    }
  }

  private static boolean lets(World w, int house, int f, int c) {
    return house == f || lets(w.homes.get(house), KINDS[w.homes.get(house).kind], f, c);
  }

  private static boolean lets(Home h, String kind, int f, int c) {
    switch (kind) {
      case "house":
        return h.leave.contains(f) && hours(h, c);
      case "strict":
        return lets(h, "house", f, c) && c < 20;
      case "open":
        return hours(h, c);
      case "inn":
        return true;
      case "sick":
        return lets(h, "house", f, c) && !(c >= 20 || c < 7);
      case "guard":
        return lets(h, "strict", f, c) || c == 12;
      default:
        return lets(h, "strict", f, c) && !h.foes.contains(f);
    }
  }

  private static int wakes(Home h, int c) {
    int house = c >= 22 || c < 6 ? h.sleepers : 0;
    return KINDS[h.kind].equals("inn") ? 0 : KINDS[h.kind].equals("sick") ? house + 1 : house;
  }

  private static boolean joins(World w, int a, int b) {
    return leads(w, a, b) || leads(w, b, a);
  }

  /** By the door to the right, or up the stair. */
  private static boolean leads(World w, int a, int b) {
    if (Math.max(a, b) >= 2 * w.n()) {
      return false;
    }
    int ha = a / 2;
    int hb = b / 2;
    boolean upA = a % 2 == 1;
    boolean upB = b % 2 == 1;
    boolean door = upA == upB && hb == ha + 1 && w.open.contains(2 * ha + (upA ? 1 : 0));
    Integer stair = w.homes.get(ha).stair;
    return door || !upA && upB && stair != null && stair == hb;
  }

  // ---- ways

  private interface Visit {
    void way(List<Integer> rooms);
  }

  /** Every way without a room twice, to a room. */
  private static void every(World w, int f, int c, int to, Visit visit) {
    for (int h = 0; h < w.n(); h++) {
      every(w, f, c, to, new ArrayList<>(List.of(2 * h)), visit);
    }
  }

  private static void every(World w, int f, int c, int to, List<Integer> rooms, Visit visit) {
    int last = rooms.get(rooms.size() - 1);
    if (!lets(w, last / 2, f, c)) {
      return;
    }
    if (last == to) {
      visit.way(rooms);
      return;
    }
    for (int r = 0; r < 2 * w.n(); r++) {
      if (joins(w, last, r) && !rooms.contains(r)) {
        rooms.add(r);
        every(w, f, c, to, rooms, visit);
        rooms.remove(rooms.size() - 1);
      }
    }
  }

  private static int home(World w, int f) {
    return 2 * w.homes.get(f).bed + 1;
  }

  /** Rooms met by going on from every one met, until none is new. */
  private static TreeSet<Integer> met(World w, int f, int c) {
    TreeSet<Integer> met = new TreeSet<>();
    for (int h = 0; h < w.n(); h++) {
      if (lets(w, h, f, c)) {
        met.add(2 * h);
      }
    }
    boolean grows = true;
    while (grows) {
      grows = false;
      for (int a : new ArrayList<>(met)) {
        for (int b = 0; b < 2 * w.n(); b++) {
          if (joins(w, a, b) && lets(w, b / 2, f, c)) {
            grows |= met.add(b);
          }
        }
      }
    }
    return met;
  }

  private static boolean isOff(World w, int f, int c) {
    return !met(w, f, c).contains(home(w, f));
  }

  private static int offs(World w, int c) {
    return set(w.n(), f -> isOff(w, f, c));
  }

  private static int length(World w, int f, int to, int c) {
    int[] least = {Integer.MAX_VALUE};
    every(w, f, c, to, rooms -> least[0] = Math.min(least[0], rooms.size()));
    return least[0];
  }

  private static int noise(World w, int f, int to, int c) {
    int[] least = {Integer.MAX_VALUE};
    every(w, f, c, to, rooms -> {
      int sum = 0;
      for (int r : rooms.subList(0, rooms.size() - 1)) {
        sum += r % 2 == 1 ? wakes(w.homes.get(r / 2), c) : 0;
      }
      least[0] = Math.min(least[0], sum);
    });
    return least[0];
  }

  private static boolean isBefore(List<Integer> a, List<Integer> b) {
    if (a.size() != b.size()) {
      return a.size() < b.size();
    }
    for (int i = 0; i < a.size(); i++) {
      if (!a.get(i).equals(b.get(i))) {
        return a.get(i) < b.get(i);
      }
    }
    return false;
  }

  private static List<Integer> wayHome(World w, int f, int c) {
    List<List<Integer>> best = new ArrayList<>();
    every(w, f, c, home(w, f), rooms -> {
      if (best.isEmpty() || isBefore(rooms, best.get(0))) {
        best.clear();
        best.add(new ArrayList<>(rooms));
      }
    });
    return best.isEmpty() ? List.of() : best.get(0);
  }

  private static int orNone(int v) {
    finding(v == Integer.MAX_VALUE, 3);
    return v;
  }

  private int ways(String name, int[] a) {
    if (name.equals("off")) {
      clock(a[0]);
      return offs(w, a[0]);
    }
    int f = a[0];
    house(f);
    switch (name) {
      case "way":
        room(a[1]);
        clock(a[2]);
        return orNone(length(w, f, a[1], a[2]));
      case "noise":
        room(a[1]);
        clock(a[2]);
        return orNone(noise(w, f, a[1], a[2]));
      case "step":
        clock(a[1]);
        beyond(out(a[2], 0, 15));
        List<Integer> rooms = wayHome(w, f, a[1]);
        finding(a[2] >= rooms.size(), 3);
        return rooms.get(a[2]);
      case "reach":
        clock(a[1]);
        TreeSet<Integer> met = met(w, f, a[1]);
        return set(16, r -> met.contains(r));
      case "hours":
        return set(24, c -> isOff(w, f, c));
      case "latest":
        int latest = -1;
        for (int c = 0; c < 24; c++) {
          latest = isOff(w, f, c) ? latest : c;
        }
        finding(latest < 0, 3);
        return latest;
      default:
        int best = -1;
        int least = Integer.MAX_VALUE;
        for (int c = 23; c >= 0; c--) {
          int length = length(w, f, home(w, f), c);
          if (length < Integer.MAX_VALUE && length <= least) {
            least = length;
            best = c;
          }
        }
        finding(best < 0, 3);
        return best;
    }
  }

  // ---- leaves

  private int more(World then, int c) {
    return Integer.bitCount(offs(then, c)) - Integer.bitCount(offs(w, c));
  }

  private World given(int houses, int f) {
    World then = w.copy();
    for (int h = 0; h < w.n(); h++) {
      if ((houses >> h & 1) == 1) {
        then.homes.get(h).leave.add(f);
      }
    }
    return then;
  }

  private int needs(int f, int c) {
    int best = -1;
    for (int s = (1 << w.n()) - 1; s >= 0; s--) {
      boolean isFewer = best < 0 || Integer.bitCount(s) <= Integer.bitCount(best);
      if (isFewer && !isOff(given(s, f), f, c)) {
        best = s;
      } else if (best < 0) {
        break;
      }
    }
    finding(best < 0, 3);
    return best;
  }

  private int leaves(String name, int[] a) {
    switch (name) {
      case "worth": {
        house(a[0]);
        clock(a[1]);
        World then = w.copy();
        then.homes.get(a[0]).leave.clear();
        return more(then, a[1]);
      }
      case "helps":
        house(a[0]);
        clock(a[1]);
        return set(w.n(), h -> isOff(w, a[0], a[1]) && !isOff(given(1 << h, a[0]), a[0], a[1]));
      case "needs":
        house(a[0]);
        clock(a[1]);
        return needs(a[0], a[1]);
      case "law":
        clock(a[0]);
        int sum = 0;
        for (int f = 0; f < w.n(); f++) {
          sum += Integer.bitCount(needs(f, a[0]));
        }
        return sum;
      case "quarrel": {
        house(a[0]);
        house(a[1]);
        beyond(a[0] == a[1]);
        clock(a[2]);
        World then = w.copy();
        then.homes.get(a[0]).leave.remove(a[1]);
        then.homes.get(a[1]).leave.remove(a[0]);
        then.homes.get(a[0]).foes.add(a[1]);
        then.homes.get(a[1]).foes.add(a[0]);
        return more(then, a[2]);
      }
      case "ring":
        house(a[0]);
        int least = ring(a[0], new ArrayList<>(List.of(a[0])));
        return orNone(least);
      default:
        house(a[0]);
        house(a[1]);
        clock(a[2]);
        beyond(out(a[3], 0, 1));
        return share(a[0], a[1], a[2], a[3]);
    }
  }

  private int ring(int start, List<Integer> chain) {
    int least = Integer.MAX_VALUE;
    for (int next : w.homes.get(chain.get(chain.size() - 1)).leave) {
      if (next == start && chain.size() > 1) {
        least = Math.min(least, chain.size());
      } else if (next < w.n() && !chain.contains(next)) {
        chain.add(next);
        least = Math.min(least, ring(start, chain));
        chain.remove(chain.size() - 1);
      }
    }
    return least;
  }

  private int share(int house, int f, int c, int part) {
    int needed = 0;
    int all = 0;
    for (int s = 0; s < 1 << w.n(); s++) {
      if ((s >> house & 1) == 0) {
        World without = w.copy();
        for (int h = 0; h < w.n(); h++) {
          if ((s >> h & 1) == 0) {
            without.homes.get(h).leave.clear();
          }
        }
        World with = without.copy();
        with.homes.get(house).leave = new TreeSet<>(w.homes.get(house).leave);
        all++;
        needed += isOff(without, f, c) && !isOff(with, f, c) ? 1 : 0;
      }
    }
    int common = all;
    while (needed % common != 0 || all % common != 0) {
      common--;
    }
    return part == 0 ? needed / common : all / common;
  }

  // ---- beds, fire, the shift

  private int nights(String name, int[] a) {
    switch (name) {
      case "beds":
        house(a[0]);
        return set(w.n(), f -> w.homes.get(f).bed == a[0]);
      case "swaps":
        return swaps();
      case "fire":
        return fire();
      case "open":
        clock(a[0]);
        finding(w.open.size() == 14, 3);
        int best = -1;
        int fewest = Integer.MAX_VALUE;
        for (int d = 13; d >= 0; d--) {
          World then = w.copy();
          if (then.open.add(d) && Integer.bitCount(offs(then, a[0])) <= fewest) {
            fewest = Integer.bitCount(offs(then, a[0]));
            best = d;
          }
        }
        return best;
      case "shift":
        for (Home h : w.homes) {
          h.bed = (h.bed + 1) % w.n();
        }
        return Integer.bitCount(offs(w, 20));
      case "gossip":
        beyond(out(a[0], 1, 12));
        finding(w.n() == 0, 4);
        for (int k = 0; k < a[0]; k++) {
          int family = draw() % w.n();
          w.homes.get(draw() % w.n()).leave.add(family);
        }
        int pairs = 0;
        for (int h = 0; h < w.n(); h++) {
          for (int f : w.homes.get(h).leave) {
            pairs += f != h && f < w.n() ? 1 : 0;
          }
        }
        return pairs;
      default:
        int was = w.z;
        w.z = a[0];
        return was;
    }
  }

  private int draw() {
    w.z = (int) (w.z * 1103515245L + 12345L);
    return w.z >>> 8;
  }

  private int swaps() {
    int[] beds = new int[w.n()];
    TreeSet<Integer> used = new TreeSet<>();
    for (int f = 0; f < w.n(); f++) {
      beds[f] = w.homes.get(f).bed;
      finding(!used.add(beds[f]), 4);
    }
    int changes = 0;
    for (int f = 0; f < w.n(); f++) {
      for (int g = f + 1; beds[f] != f; g++) {
        if (beds[g] == f) {
          beds[g] = beds[f];
          beds[f] = f;
          changes++;
        }
      }
    }
    return changes;
  }

  private int fire() {
    int longest = 0;
    for (int f = 0; f < w.n(); f++) {
      TreeSet<Integer> at = new TreeSet<>(List.of(home(w, f)));
      int minutes = 1;
      while (at.stream().noneMatch(r -> r % 2 == 0)) {
        minutes++;
        for (int a : new ArrayList<>(at)) {
          for (int b = 0; b < 2 * w.n(); b++) {
            if (joins(w, a, b)) {
              at.add(b);
            }
          }
        }
        finding(minutes > 20, 3);
      }
      longest = Math.max(longest, minutes);
    }
    return longest;
  }

  // ---- texts, spots, sheets, images

  private int others(String name, int[] a) {
    switch (name) {
      case "feed":
        beyond(out(a[1], 1, 4));
        finding(tape.size() + a[1] > 120, 1);
        for (int k = a[1] - 1; k >= 0; k--) {
          tape.add(a[0] >> 8 * k & 255);
        }
        return tape.size();
      case "wipe":
        int had = tape.size();
        tape.clear();
        return had;
      case "text":
        return text();
      case "hold":
        beyond(out(a[0], 0, 9) || out(a[1], -1, w.n() - 1));
        w.spots[a[0]] = a[1] < 0 ? null : Integer.valueOf(a[1]);
        return 1;
      case "as":
        beyond(out(a[0], 0, 9) || out(a[1], 0, 6));
        finding(w.spots[a[0]] == null, 5);
        finding(!under(w.homes.get(w.spots[a[0]]).kind).contains(a[1]), 2);
        return w.spots[a[0]];
      case "image":
        kept = w.copy();
        return 1;
      case "undo":
        finding(kept == null, 3);
        w = kept.copy();
        return w.n();
      case "tear":
        int was = kept == null ? 0 : 1;
        kept = null;
        return was;
      case "count":
        beyond(out(a[0], 0, 6));
        return count(a[0]);
      case "status":
        beyond(out(a[0], -1, 6));
        return a[0] < 0 ? Arrays.stream(found).sum() : found[a[0]];
      default:
        return sheets(name, a);
    }
  }

  private static List<Integer> under(int kind) {
    switch (kind) {
      case 3:
        return List.of(3, 2, 0);
      case 4:
        return List.of(4, 1, 0);
      case 6:
        return List.of(6, 1, 0);
      default:
        return List.of(kind, 0);
    }
  }

  private int count(int what) {
    int stairs = 0;
    int sleepers = 0;
    int held = 0;
    for (Home h : w.homes) {
      stairs += h.stair == null ? 0 : 1;
      sleepers += h.sleepers;
    }
    for (Integer spot : w.spots) {
      held += spot == null ? 0 : 1;
    }
    int[] all = {w.n(), w.open.size(), stairs, sleepers, tape.size(), w.z, held};
    return all[what];
  }

  private void sheet(int s) {
    beyond(out(s, 0, 3));
  }

  private void there(int s) {
    finding(sheets[s] == null, 5);
  }

  private int sheets(String name, int[] a) {
    sheet(a[0]);
    switch (name) {
      case "sheet":
        beyond(!List.of(0, 8, 16, 32).contains(a[1]));
        finding(a[2] < 0, 6);
        beyond(a[2] > 40);
        widths[a[0]] = a[1];
        sheets[a[0]] = a[1] == 0 ? null : new int[a[2]];
        return a[1] == 0 ? 0 : a[2];
      case "write":
        there(a[0]);
        beyond(out(a[1], 0, sheets[a[0]].length - 1));
        sheets[a[0]][a[1]] = a[2] << 32 - widths[a[0]] >> 32 - widths[a[0]];
        return 1;
      case "copy":
        sheet(a[2]);
        there(a[0]);
        there(a[2]);
        finding(widths[a[0]] != widths[a[2]], 2);
        beyond(a[1] < 0 || a[3] < 0 || a[4] < 0);
        beyond((long) a[1] + a[4] > sheets[a[0]].length);
        beyond((long) a[3] + a[4] > sheets[a[2]].length);
        int[] from = sheets[a[0]].clone();
        for (int k = 0; k < a[4]; k++) {
          sheets[a[2]][a[3] + k] = from[a[1] + k];
        }
        return a[4];
      case "load":
        there(a[0]);
        int came = 0;
        for (; came < w.n() && came < sheets[a[0]].length; came++) {
          w.homes.get(came).leave.clear();
          for (int f = 0; f < 8; f++) {
            if ((sheets[a[0]][came] >> f & 1) == 1) {
              w.homes.get(came).leave.add(f);
            }
          }
        }
        return came;
      default:
        there(a[0]);
        house(a[1]);
        clock(a[2]);
        return judge(sheets[a[0]], a[1], a[2]);
    }
  }

  private int judge(int[] rooms, int f, int c) {
    for (int i = 0; i < rooms.length; i++) {
      boolean isRoom = !out(rooms[i], 0, 2 * w.n() - 1);
      boolean isOn = isRoom && (i == 0 ? rooms[i] % 2 == 0 : joins(w, rooms[i - 1], rooms[i]));
      if (!isOn || !lets(w, rooms[i] / 2, f, c)) {
        return 1 + i;
      }
    }
    boolean isHome = rooms.length > 0 && rooms[rooms.length - 1] == home(w, f);
    return isHome ? 0 : 1 + rooms.length;
  }

  // ---- texts

  private final List<String> tokens = new ArrayList<>();
  private final List<Integer> places = new ArrayList<>();
  private int next = 0;

  private int text() {
    StringBuilder bytes = new StringBuilder();
    for (int b : tape) {
      bytes.append((char) b);
    }
    tape.clear();
    cut(bytes.toString());
    World before = w.copy();
    try {
      int items = 1;
      item();
      while (!token().isEmpty()) {
        sign(";");
        item();
        items++;
      }
      return items;
    } catch (Fault f) {
      w = before;
      return -1 - f.place;
    }
  }

  private void cut(String text) {
    tokens.clear();
    places.clear();
    next = 0;
    Matcher m = Pattern.compile("[a-z]+|[0-9]+|[^ ]", Pattern.DOTALL).matcher(text);
    while (m.find()) {
      tokens.add(m.group());
      places.add(m.start());
    }
    tokens.add("");
    places.add(text.length());
  }

  private String token() {
    return tokens.get(next);
  }

  private Fault fault() {
    return new Fault(places.get(next));
  }

  private void sign(String due) {
    if (!token().equals(due)) {
      throw fault();
    }
    next++;
  }

  private int number(int most) {
    if (!token().matches("0*[0-9]{1,3}") || Integer.parseInt(token().replaceFirst("^0+(?=.)", "")) > most) {
      throw fault();
    }
    return Integer.parseInt(tokens.get(next++).replaceFirst("^0+(?=.)", ""));
  }

  private boolean optional(String word) {
    boolean is = token().equals(word);
    next += is ? 1 : 0;
    return is;
  }

  private void item() {
    int kind = Arrays.asList(KINDS).indexOf(token());
    if (kind >= 0) {
      newHouse(kind);
    } else if (token().equals("leave") || token().equals("foes")) {
      boolean isLeave = tokens.get(next++).equals("leave");
      Home h = w.homes.get(number(w.n() - 1));
      do {
        (isLeave ? h.leave : h.foes).add(number(7));
      } while (token().matches("[0-9]+"));
    } else if (optional("door")) {
      w.open.add(number(13));
    } else {
      sign("bed");
      Home h = w.homes.get(number(w.n() - 1));
      sign("in");
      h.bed = number(w.n() - 1);
    }
  }

  private void newHouse(int kind) {
    if (w.n() == 8) {
      throw fault();
    }
    next++;
    Home h = new Home();
    h.kind = kind;
    h.bed = w.n();
    if (w.n() > 0 && optional("left")) {
      h.stair = w.n() - 1;
    } else if (w.n() < 7 && optional("right")) {
      h.stair = w.n() + 1;
    }
    w.homes.add(h);
    if (optional("from")) {
      h.from = number(23);
      sign("to");
      h.to = number(23);
    }
    if (optional("sleepers")) {
      h.sleepers = number(9);
    }
  }
}
