import java.util.ArrayList;
import java.util.HashMap;
import java.util.List;
import java.util.Map;
import java.util.Random;
import java.util.TreeSet;

/**
 * Random runs (the same ones each time) on LandUnions beside a second program, written from the
 * document alone in its most roundabout form: partings as lists of sets, nothing kept.
 */
public final class LandUnionsOracle {
  private static final int UNKNOWN = -1, OUTSIDE = -2, FULL = -4, NO = -5, NONE = -6, LOST = -1000000000;

  private static int wrong = 0;
  private static final Map<String, Integer> kinds = new HashMap<>();

  // ---- the second program

  private final List<int[]> lands = new ArrayList<>();
  private List<TreeSet<Integer>> parting = new ArrayList<>();
  private String pad = "";
  private int walls = 0, shares = 0;

  private static final class State {
    int[] price, bought, seller, wall, part, good;
  }

  private static List<TreeSet<Integer>> sorted(List<TreeSet<Integer>> p) {
    List<TreeSet<Integer>> q = new ArrayList<>();
    for (TreeSet<Integer> u : p) if (!u.isEmpty()) q.add(new TreeSet<>(u));
    q.sort((x, y) -> Integer.compare(x.first(), y.first()));
    return q;
  }

  private static int unionOf(List<TreeSet<Integer>> p, int land) {
    for (int i = 0; i < p.size(); i++) if (p.get(i).contains(land)) return i;
    throw new IllegalStateException();
  }

  private static List<TreeSet<Integer>> without(List<TreeSet<Integer>> p, TreeSet<Integer> set) {
    List<TreeSet<Integer>> q = new ArrayList<>();
    for (TreeSet<Integer> u : p) { TreeSet<Integer> v = new TreeSet<>(u); v.removeAll(set); q.add(v); }
    return q;
  }

  private static List<TreeSet<Integer>> gathered(List<TreeSet<Integer>> p, TreeSet<Integer> set) {
    List<TreeSet<Integer>> q = without(p, set);
    q.add(new TreeSet<>(set));
    return sorted(q);
  }

  private static TreeSet<Integer> one(int land) { TreeSet<Integer> s = new TreeSet<>(); s.add(land); return s; }

  private static List<TreeSet<Integer>> left(List<TreeSet<Integer>> p, int land) { return gathered(p, one(land)); }

  private static List<TreeSet<Integer>> joined(List<TreeSet<Integer>> p, int land, int union) {
    TreeSet<Integer> target = new TreeSet<>(p.get(union));
    target.add(land);
    return gathered(p, target);
  }

  private State state(List<TreeSet<Integer>> p) {
    int n = lands.size();
    State s = new State();
    s.price = new int[n]; s.bought = new int[n]; s.seller = new int[n];
    s.wall = new int[n]; s.part = new int[n]; s.good = new int[n];
    int[] own = new int[n];
    for (int i = 0; i < n; i++) {
      TreeSet<Integer> mine = p.get(unionOf(p, i));
      if (mine.size() == 1) s.wall[i] = lands.get(i)[3];
      else if (walls == 0) s.wall[i] = mine.stream().mapToInt(l -> lands.get(l)[3]).min().getAsInt();
      else if (walls == 1) s.wall[i] = mine.stream().mapToInt(l -> lands.get(l)[3]).max().getAsInt();
      else s.wall[i] = mine.stream().mapToInt(l -> lands.get(l)[3]).sum() / mine.size();
      int at = -1, best = 0;
      for (int j = n - 1; j >= 0; j--) {
        int price = lands.get(j)[1] + lands.get(j)[2] + (mine.contains(j) ? 0 : s.wall[i]);
        if (at < 0 || price <= best) { at = j; best = price; }
      }
      s.price[i] = best;
      s.bought[i] = Math.max(0, lands.get(i)[0] - best);
      s.seller[i] = s.bought[i] == 0 ? NONE : at;
      own[i] = s.bought[i] > 0 && !mine.contains(at) ? s.wall[i] * s.bought[i] : 0;
    }
    for (TreeSet<Integer> u : p) {
      int sum = 0, wishes = 0, given = 0;
      for (int l : u) { sum += own[l]; wishes += lands.get(l)[0]; }
      for (int l : u) {
        s.part[l] = shares == 0 ? own[l] : shares == 1 ? sum / u.size() : sum * lands.get(l)[0] / wishes;
        given += s.part[l];
      }
      for (int l : u) if (given < sum) { s.part[l]++; given++; }
    }
    for (int i = 0; i < n; i++) {
      int sold = 0;
      for (int j = 0; j < n; j++) if (s.seller[j] == i) sold += s.bought[j];
      s.good[i] = s.bought[i] * s.bought[i] + 2 * s.part[i] + 2 * lands.get(i)[2] * sold;
    }
    return s;
  }

  private int[] goods(List<TreeSet<Integer>> p) { return state(p).good; }

  private boolean isLand(int l) { return l >= 0 && l < lands.size(); }

  private static boolean fits(int what, int v) {
    int[] least = {1, 1, 0, 0}, most = {99, 99, 20, 60};
    return what >= 0 && what < 4 && v >= least[what] && v <= most[what];
  }

  int land(int w, int c, int g, int t) {
    if (!fits(0, w) || !fits(1, c) || !fits(2, g) || !fits(3, t)) return OUTSIDE;
    if (lands.size() == 6) return FULL;
    lands.add(new int[] {w, c, g, t});
    parting.add(one(lands.size() - 1));
    return lands.size() - 1;
  }

  int change(int l, int what, int v) {
    if (!isLand(l)) return UNKNOWN;
    if (!fits(what, v)) return OUTSIDE;
    int was = lands.get(l)[what];
    lands.get(l)[what] = v;
    return was;
  }

  int set(int which, int v) {
    if (which < 0 || which > 1 || v < 0 || v > 2) return OUTSIDE;
    int was = which == 0 ? walls : shares;
    if (which == 0) walls = v; else shares = v;
    return was;
  }

  int say(int sign) {
    if (sign < 33 || sign > 126) return OUTSIDE;
    if (pad.length() == 20) return FULL;
    pad += (char) sign;
    return pad.length();
  }

  int wipe() { int were = pad.length(); pad = ""; return were; }

  int fault() {
    if (lands.isEmpty()) return 0;
    String letters = "abcdef".substring(0, lands.size());
    String been = "";
    for (int i = 0; i < pad.length(); i++) {
      char c = pad.charAt(i);
      if (been.length() == letters.length()) return i;
      if (c == '|') {
        if (i == 0 || pad.charAt(i - 1) == '|') return i;
      } else {
        if (letters.indexOf(c) < 0 || been.indexOf(c) >= 0) return i;
        been += c;
      }
    }
    return been.length() == letters.length() ? NONE : pad.length();
  }

  int part() {
    if (fault() != NONE) return NO;
    List<TreeSet<Integer>> p = new ArrayList<>();
    for (String text : pad.split("\\|")) {
      TreeSet<Integer> u = new TreeSet<>();
      for (char c : text.toCharArray()) u.add(c - 'a');
      p.add(u);
    }
    parting = sorted(p);
    pad = "";
    return parting.size();
  }

  int union(int l) { return isLand(l) ? unionOf(parting, l) : UNKNOWN; }

  int of(int l, int what) {
    if (!isLand(l)) return UNKNOWN;
    if (what < 0 || what > 5) return OUTSIDE;
    State s = state(parting);
    return new int[] {s.good[l], s.price[l], s.bought[l], s.seller[l], s.wall[l], s.part[l]}[what];
  }

  private List<List<TreeSet<Integer>>> partings() {
    List<List<TreeSet<Integer>>> found = new ArrayList<>();
    spread(new ArrayList<>(), 0, found);
    return found;
  }

  private void spread(List<TreeSet<Integer>> p, int land, List<List<TreeSet<Integer>>> found) {
    if (land == lands.size()) { found.add(sorted(p)); return; }
    for (int u = 0; u <= p.size(); u++) {
      List<TreeSet<Integer>> q = sorted(p);
      if (u == p.size()) q.add(one(land)); else q.get(u).add(land);
      spread(q, land + 1, found);
    }
  }

  private static int sum(int[] row) { int s = 0; for (int v : row) s += v; return s; }

  int all(int what) {
    if (what == 0) return sum(goods(parting));
    if (what == 2) return partings().size();
    if (what != 1) return OUTSIDE;
    int best = 0;
    for (List<TreeSet<Integer>> p : partings()) best = Math.max(best, sum(goods(p)));
    return best;
  }

  private TreeSet<Integer> setOf(int bits) {
    TreeSet<Integer> s = new TreeSet<>();
    for (int l = 0; l < lands.size(); l++) if ((bits & 1 << l) != 0) s.add(l);
    return s;
  }

  private boolean breaksAway(List<TreeSet<Integer>> p, TreeSet<Integer> set) {
    if (p.contains(set)) return false;
    int[] now = goods(p), then = goods(gathered(p, set));
    for (int l : set) if (then[l] <= now[l]) return false;
    return true;
  }

  private boolean welcome(List<TreeSet<Integer>> p, int land, int union) {
    int[] now = goods(p), then = goods(joined(p, land, union));
    for (int l : p.get(union)) if (then[l] < now[l]) return false;
    return true;
  }

  private int breaker(int rest, List<TreeSet<Integer>> p) {
    int n = lands.size();
    int[] now = goods(p);
    if (rest == 2) {
      for (int bits = 1; bits < 1 << n; bits++) if (breaksAway(p, setOf(bits))) return 1000 + bits;
      return NONE;
    }
    for (int l = 0; l < n; l++) if (goods(left(p, l))[l] > now[l]) return l;
    if (rest == 0) return NONE;
    for (int l = 0; l < n; l++) {
      for (int u = 0; u < p.size(); u++) {
        if (u != unionOf(p, l) && goods(joined(p, l, u))[l] > now[l] && welcome(p, l, u)) return 100 + 10 * l + u;
      }
    }
    return NONE;
  }

  int breaks(int rest) { return rest < 0 || rest > 2 ? OUTSIDE : breaker(rest, parting); }

  int rests(int rest, int i, int l) {
    if (i != -1 && !isLand(l)) return UNKNOWN;
    if (rest < 0 || rest > 2) return OUTSIDE;
    List<List<TreeSet<Integer>>> quiet = new ArrayList<>();
    for (List<TreeSet<Integer>> p : partings()) if (breaker(rest, p) == NONE) quiet.add(p);
    if (i == -1) return quiet.size();
    return i >= 0 && i < quiet.size() ? unionOf(quiet.get(i), l) : NONE;
  }

  int go(int start, int what) {
    if (!isLand(start)) return UNKNOWN;
    if (what != 0 && what != 1 && (what < 10 || what > 15)) return OUTSIDE;
    int n = lands.size(), next = start, ring = -1, goings = 0;
    List<TreeSet<Integer>> p = sorted(parting);
    Map<String, Integer> seen = new HashMap<>();
    seen.put(p + "/" + next, 0);
    while (goings < 500) {
      List<TreeSet<Integer>> goal = null;
      int goer = -1;
      for (int k = 0; k < n && goal == null; k++) {
        goer = (next + k) % n;
        int most = goods(p)[goer];
        List<List<TreeSet<Integer>>> goals = new ArrayList<>();
        goals.add(left(p, goer));
        for (int u = 0; u < p.size(); u++) if (u != unionOf(p, goer) && welcome(p, goer, u)) goals.add(joined(p, goer, u));
        for (List<TreeSet<Integer>> g : goals) if (goods(g)[goer] > most) { most = goods(g)[goer]; goal = g; }
      }
      if (goal == null) { ring = 0; break; }
      p = goal;
      next = (goer + 1) % n;
      goings++;
      Integer before = seen.putIfAbsent(p + "/" + next, goings);
      if (before != null) { ring = goings - before; break; }
    }
    if (ring != 0) kinds.merge("go in a ring", 1, Integer::sum);
    if (ring == 0 && goings > 3) kinds.merge("go over more than 3", 1, Integer::sum);
    if (ring > 0 && goings == ring) kinds.merge("go in a ring at once", 1, Integer::sum);
    if (ring > 0 && goings > ring) kinds.merge("go to a ring farther on", 1, Integer::sum);
    if (what == 0) return goings;
    if (what == 1) return ring;
    return isLand(what - 10) ? unionOf(p, what - 10) : NONE;
  }

  int whole(int what) {
    if (what < 0 || what > 2) return OUTSIDE;
    List<TreeSet<Integer>> apart = new ArrayList<>(), together = new ArrayList<>();
    for (int l = 0; l < lands.size(); l++) apart.add(one(l));
    together.add(setOf((1 << lands.size()) - 1));
    int[] a = goods(apart), t = goods(sorted(together));
    int needs = 0, spare = 0;
    for (int l = 0; l < lands.size(); l++) if (t[l] < a[l]) needs += a[l] - t[l]; else spare += t[l] - a[l];
    return what == 0 ? needs : what == 1 ? spare : needs <= spare ? 1 : 0;
  }

  int rules() {
    int was = shares, bits = 0;
    for (shares = 0; shares < 3; shares++) if (breaker(0, parting) == NONE) bits += 1 << shares;
    shares = was;
    return bits;
  }

  int propose(int l, int what) {
    if (!isLand(l)) return UNKNOWN;
    if (what < 0 || what > 1) return OUTSIDE;
    int best = NONE, most = -1;
    for (int bits = (1 << lands.size()) - 1; bits > 0; bits--) {
      TreeSet<Integer> set = setOf(bits);
      if (!set.contains(l) || !breaksAway(parting, set)) continue;
      int good = goods(gathered(parting, set))[l];
      if (good >= most) { most = good; best = bits; }
    }
    return best == NONE ? NONE : what == 0 ? best : most;
  }

  int enter(int l, int u, int what) {
    if (!isLand(l)) return LOST + UNKNOWN;
    if (u < 0 || u >= parting.size() || unionOf(parting, l) == u || what < 0 || what > 1) return LOST + OUTSIDE;
    int[] now = goods(parting), then = goods(joined(parting, l, u));
    if (what == 0) return then[l] - now[l];
    int theirs = 0;
    for (int m : parting.get(u)) theirs += then[m] - now[m];
    return theirs;
  }

  int holds() {
    int[] now = goods(parting);
    for (int cost = 0; ; cost++) {
      boolean stays = true;
      for (int l = 0; l < lands.size(); l++) if (goods(left(parting, l))[l] - cost > now[l]) stays = false;
      if (stays) return cost;
    }
  }

  int hurt(int u) {
    if (u < 0 || u >= parting.size()) return OUTSIDE;
    List<TreeSet<Integer>> loose = without(parting, parting.get(u));
    for (int l : parting.get(u)) loose.add(one(l));
    int[] now = goods(parting), then = goods(sorted(loose));
    int bits = 0;
    for (int l = 0; l < lands.size(); l++) if (!parting.get(u).contains(l) && now[l] < then[l]) bits += 1 << l;
    return bits;
  }

  int edge(int l) {
    if (!isLand(l)) return UNKNOWN;
    int was = lands.get(l)[1], best = NONE;
    boolean stays = breaker(0, parting) == NONE;
    for (int cost = 1; cost <= 99; cost++) {
      lands.get(l)[1] = cost;
      boolean turned = (breaker(0, parting) == NONE) != stays;
      if (turned && (best == NONE || Math.abs(cost - was) < Math.abs(best - was))) best = cost;
    }
    lands.get(l)[1] = was;
    return best;
  }

  int told(int what) {
    if (what >= 10 && what <= 15) return isLand(what - 10) ? lands.get(what - 10)[1] : NONE;
    if (what < 0 || what > 4) return OUTSIDE;
    return new int[] {lands.size(), pad.length(), walls, shares, parting.size()}[what];
  }

  // ---- the runs

  private static void due(String run, String call, int got, int want) {
    String name = call.substring(0, call.indexOf('('));
    String kind = want == UNKNOWN ? "UNKNOWN" : want == OUTSIDE ? "OUTSIDE" : want == FULL ? "FULL" : want == NO ? "NO" : want == NONE ? "NONE" : want < LOST / 2 ? "LOST" : "a number";
    kinds.merge(name + " " + kind, 1, Integer::sum);
    if (got != want && ++wrong <= 40) System.out.println(run + ": " + call + " answered " + got + ", due is " + want);
  }

  /** Mostly a number from least to most, now and then one beside them or far off. */
  private static int near(Random r, int least, int most) {
    int k = r.nextInt(40);
    if (k == 0) return least - 1;
    if (k == 1) return most + 1;
    if (k == 2) return r.nextBoolean() ? Integer.MIN_VALUE : Integer.MAX_VALUE;
    if (k == 3) return least;
    if (k == 4) return most;
    return least + r.nextInt(most - least + 1);
  }

  private static void addLand(String run, Random r, LandUnions x, LandUnionsOracle y, int style) {
    int w = style == 0 ? near(r, 1, 99) : 40 + r.nextInt(60);
    int c = style == 0 ? near(r, 1, 99) : 5 + r.nextInt(style == 1 ? 30 : 12);
    int g = style == 0 ? near(r, 0, 20) : r.nextInt(style == 1 ? 21 : 6);
    int t = style == 0 ? near(r, 0, 60) : r.nextInt(style == 1 ? 61 : 16);
    due(run, "land(" + w + ", " + c + ", " + g + ", " + t + ")", x.land(w, c, g, t), y.land(w, c, g, t));
  }

  private static void sayParting(String run, Random r, LandUnions x, LandUnionsOracle y) {
    List<Character> letters = new ArrayList<>();
    for (int l = 0; l < y.lands.size(); l++) letters.add((char) ('a' + l));
    java.util.Collections.shuffle(letters, r);
    StringBuilder text = new StringBuilder();
    int cut = r.nextInt(4);
    for (char c : letters) {
      if (text.length() > 0 && r.nextInt(4) < cut) text.append('|');
      text.append(c);
    }
    if (r.nextInt(8) == 0) text.insert(r.nextInt(text.length() + 1), "|a!gfAb{`".charAt(r.nextInt(9)));
    if (r.nextInt(4) != 0) due(run, "wipe()", x.wipe(), y.wipe());
    for (char c : text.toString().toCharArray()) {
      due(run, "say(" + (int) c + ")", x.say(c), y.say(c));
      if (r.nextInt(3) == 0) due(run, "fault()", x.fault(), y.fault());
    }
    due(run, "fault()", x.fault(), y.fault());
    due(run, "part()", x.part(), y.part());
  }

  private static void ask(String run, Random r, LandUnions x, LandUnionsOracle y) {
    int n = y.lands.size();
    int l = near(r, 0, Math.max(0, n - 1)), u = near(r, 0, Math.max(0, y.parting.size() - 1)), w, i;
    switch (r.nextInt(24)) {
      case 0: addLand(run, r, x, y, 0); break;
      case 1: case 2:
        w = near(r, 0, 3); i = near(r, w < 2 ? 1 : 0, w < 2 ? 99 : w == 2 ? 20 : 60);
        due(run, "change(" + l + ", " + w + ", " + i + ")", x.change(l, w, i), y.change(l, w, i)); break;
      case 3: w = near(r, 0, 1); i = near(r, 0, 2); due(run, "set(" + w + ", " + i + ")", x.set(w, i), y.set(w, i)); break;
      case 4: w = near(r, 33, 126); due(run, "say(" + w + ")", x.say(w), y.say(w)); break;
      case 5: due(run, "wipe()", x.wipe(), y.wipe()); break;
      case 6: due(run, "fault()", x.fault(), y.fault()); due(run, "part()", x.part(), y.part()); break;
      case 7: case 8: sayParting(run, r, x, y); break;
      case 9: due(run, "union(" + l + ")", x.union(l), y.union(l)); break;
      case 10: w = near(r, 0, 5); due(run, "of(" + l + ", " + w + ")", x.of(l, w), y.of(l, w)); break;
      case 11: w = near(r, 0, 2); due(run, "all(" + w + ")", x.all(w), y.all(w)); break;
      case 12: w = near(r, 0, 2); due(run, "breaks(" + w + ")", x.breaks(w), y.breaks(w)); break;
      case 13:
        w = near(r, 0, 2); i = r.nextInt(3) == 0 ? -1 : near(r, -1, 12);
        if (n == 6 && r.nextInt(4) != 0) break;
        due(run, "rests(" + w + ", " + i + ", " + l + ")", x.rests(w, i, l), y.rests(w, i, l)); break;
      case 14: case 15: w = r.nextBoolean() ? near(r, 0, 1) : near(r, 10, 15); due(run, "go(" + l + ", " + w + ")", x.go(l, w), y.go(l, w)); break;
      case 16: w = near(r, 0, 2); due(run, "whole(" + w + ")", x.whole(w), y.whole(w)); break;
      case 17: due(run, "rules()", x.rules(), y.rules()); break;
      case 18: w = near(r, 0, 1); due(run, "propose(" + l + ", " + w + ")", x.propose(l, w), y.propose(l, w)); break;
      case 19: w = near(r, 0, 1); due(run, "enter(" + l + ", " + u + ", " + w + ")", x.enter(l, u, w), y.enter(l, u, w)); break;
      case 20: due(run, "holds()", x.holds(), y.holds()); break;
      case 21: due(run, "hurt(" + u + ")", x.hurt(u), y.hurt(u)); break;
      case 22: due(run, "edge(" + l + ")", x.edge(l), y.edge(l)); break;
      default: w = r.nextBoolean() ? near(r, 0, 4) : near(r, 10, 15); due(run, "told(" + w + ")", x.told(w), y.told(w));
    }
  }

  /** WALLS and SHARES, then lands: GO comes round in a ring in each, found by trying many. */
  private static final int[][] RINGS = {
    {2, 0, 41, 7, 1, 6, 22, 6, 8, 8, 28, 1, 6, 20},
    {0, 1, 81, 40, 20, 25, 47, 21, 7, 18, 64, 30, 2, 10},
    {1, 2, 32, 2, 1, 23, 65, 3, 4, 8, 12, 30, 13, 10},
    {1, 1, 37, 21, 0, 22, 35, 39, 11, 29, 56, 6, 12, 18, 97, 18, 1, 3},
    {0, 2, 95, 3, 10, 25, 58, 17, 15, 28, 42, 30, 11, 5, 72, 21, 12, 1, 63, 23, 18, 22},
    {0, 1, 42, 37, 12, 1, 32, 33, 14, 19, 73, 10, 1, 4, 38, 19, 15, 24, 79, 40, 13, 11, 19, 20, 10, 6}
  };

  private static void goInRings() {
    for (int[] ring : RINGS) {
      LandUnions x = new LandUnions();
      LandUnionsOracle y = new LandUnionsOracle();
      for (int k = 2; k < ring.length; k += 4) {
        x.land(ring[k], ring[k + 1], ring[k + 2], ring[k + 3]);
        y.land(ring[k], ring[k + 1], ring[k + 2], ring[k + 3]);
      }
      for (int k = 0; k < 2; k++) { x.set(k, ring[k]); y.set(k, ring[k]); }
      goFromAll(x, y);
      partInto(x, y);
      goFromAll(x, y);
    }
  }

  private static void goFromAll(LandUnions x, LandUnionsOracle y) {
    for (int l = 0; l < y.lands.size(); l++) {
      for (int w : new int[] {0, 1, 10, 11, 12, 13, 14, 15}) due("ring of " + y.lands.size(), "go(" + l + ", " + w + ")", x.go(l, w), y.go(l, w));
    }
  }

  /** THE PARTING becomes that in which GO from land 0 on ends: one of the ring. */
  private static void partInto(LandUnions x, LandUnionsOracle y) {
    StringBuilder text = new StringBuilder();
    for (int u = 0; u < y.lands.size(); u++) {
      for (int l = 0; l < y.lands.size(); l++) {
        if (y.go(0, 10 + l) == u) {
          if (text.indexOf("" + u) < 0) text.append(text.length() == 0 ? "" : "|").append(u);
          text.append((char) ('a' + l));
        }
      }
    }
    for (char c : text.toString().replaceAll("[0-9]", "").toCharArray()) { x.say(c); y.say(c); }
    due("a ring", "part()", x.part(), y.part());
  }

  public static void main(String[] args) {
    goInRings();
    int runs = args.length > 0 ? Integer.parseInt(args[0]) : 500;
    int first = args.length > 1 ? Integer.parseInt(args[1]) : 0;
    for (int seed = first; seed < first + runs; seed++) {
      Random r = new Random(seed);
      LandUnions x = new LandUnions();
      LandUnionsOracle y = new LandUnionsOracle();
      String run = "run " + seed;
      int count = r.nextInt(7), style = r.nextInt(3);
      for (int k = 0; k < count; k++) addLand(run, r, x, y, style);
      for (int k = 0; k < 60; k++) ask(run, r, x, y);
    }
    if (args.length > 0) new java.util.TreeMap<>(kinds).forEach((k, v) -> System.out.println(k + ": " + v));
    for (String kind : new String[] {"go in a ring", "go in a ring at once", "go over more than 3", "go to a ring farther on", "part NO", "say FULL", "land FULL", "edge NONE", "propose NONE", "rests NONE", "enter LOST"}) {
      if (args.length == 0 && !kinds.containsKey(kind)) { wrong++; System.out.println("the runs never came to: " + kind); }
    }
    System.out.println(wrong == 0 ? "all answers are as due" : wrong + " answers are not as due");
    if (wrong != 0) System.exit(1);
  }
}
