import java.nio.file.Files;
import java.nio.file.Path;
import java.util.ArrayList;
import java.util.List;

/**
 * Each sentence of the document that names a boundary case (too small, too large, empty, full, round from the
 * last to the first, a refused call) with a test of its own. Answers are reckoned by hand, but for the long ways
 * of promise 14. `java LandUnionsSentences ../shared/DOC.md` also looks whether the words stand in the document.
 */
public final class LandUnionsSentences {
  private static final int UNKNOWN = -1, OUTSIDE = -2, FULL = -4, NO = -5, NONE = -6, LOST = -1000000000;
  private static final int MIN = Integer.MIN_VALUE, MAX = Integer.MAX_VALUE;
  private static final int WISH = 0, COST = 1, GAIN = 2, TOLL = 3, WALLS = 0, SHARES = 1, STAY = 0, JOIN = 1, CORE = 2;

  private interface Call { int on(LandUnions x); }

  private static int wrong = 0, dues = 0, promise = 0;
  private static String words = "";
  private static final List<String> quoted = new ArrayList<>();

  private static void test(int ofPromise, String itsWords, Runnable calls) {
    promise = ofPromise;
    words = itsWords;
    quoted.add(itsWords);
    int before = dues;
    try {
      calls.run();
    } catch (RuntimeException thrown) {
      fail("it threw " + thrown);
    }
    if (dues == before) fail("the test asks nothing");
  }

  private static void fail(String what) {
    wrong++;
    System.out.println("promise " + promise + ", \"" + words + "\": " + what);
  }

  private static void due(String call, int got, int want) {
    dues++;
    if (got != want) fail(call + " answered " + got + ", due is " + want);
  }

  private static void due(String call, String got, String want) {
    dues++;
    if (!got.equals(want)) fail(call + " answered " + got + ", due is " + want);
  }

  // ---- worlds

  private static LandUnions world(int... numbers) {
    LandUnions x = new LandUnions();
    for (int i = 0; i + 3 < numbers.length; i += 4) x.land(numbers[i], numbers[i + 1], numbers[i + 2], numbers[i + 3]);
    return x;
  }

  private static LandUnions with(LandUnions x, int walls, int shares, String parting) {
    x.set(WALLS, walls);
    x.set(SHARES, shares);
    parted(x, parting);
    return x;
  }

  /** So many lands that have no reason to do anything. */
  private static LandUnions calm(int count) {
    LandUnions x = new LandUnions();
    for (int l = 0; l < count; l++) x.land(30, 10, 0, 0);
    return x;
  }

  /** Apart b buys 2 of itself at 11: 4 + 2 x 3 x 2; with a 4 of a at 9: 16 too. a sells 4 more then: 8 more. */
  private static LandUnions likeForB() { return world(15, 8, 1, 2, 13, 8, 3, 10); }

  /** Apart b buys 1 of itself at 10: 1 + 2 x 2; with a 2 of a at 9: 4. a sells 2 more then: 4 more. */
  private static LandUnions oneLessForB() { return world(15, 8, 1, 2, 11, 8, 2, 10); }

  /** Apart a buys 10 of b at 6: 100 + 2 x 10; with b 11: 121. b has no GAIN: 27 x 27 either way. */
  private static LandUnions oneMoreForA() { return world(16, 30, 2, 1, 32, 5, 0, 11); }

  /** a and b buy of c, at 5 and the wall. Apart 900, 300, 500; ab|c by the greatest wall 800, 300, 420. */
  private static LandUnions outsideSeller() { return world(35, 50, 0, 0, 25, 50, 0, 10, 15, 1, 4, 3); }

  /** abc|d: all buy of a at 6, d over a toll of 9; c alone would have a toll of 20, with b one of 0. */
  private static LandUnions leftBehind() { return with(world(30, 5, 1, 9, 30, 50, 0, 0, 30, 50, 0, 20, 30, 50, 0, 9), 0, 0, "abc|d"); }

  /**
   * a buys nothing. a|b|c: 24, 675, 104; ab|c: 180, 676, 104; ac|b: 90, 675, 225; a|bc: 0, 703, 196;
   * abc: 246, 676, 225. So a goes to b, b to c, c to a, and again.
   */
  private static LandUnions ring() { return world(1, 6, 3, 8, 35, 9, 1, 6, 24, 22, 1, 11); }

  private static void text(LandUnions x, String signs) {
    for (char c : signs.toCharArray()) x.say(c);
  }

  private static int parted(LandUnions x, String signs) {
    x.wipe();
    text(x, signs);
    return x.part();
  }

  private static String row(LandUnions x) {
    StringBuilder s = new StringBuilder();
    for (int l = 0; l < x.told(0); l++) s.append(x.union(l));
    return s.toString();
  }

  private static String goRow(LandUnions x, int from) {
    StringBuilder s = new StringBuilder();
    for (int l = 0; l < x.told(0); l++) s.append(x.go(from, 10 + l));
    return s.toString();
  }

  private static void goods(LandUnions x, int... want) {
    for (int l = 0; l < want.length; l++) due("of(" + l + ", 0)", x.of(l, 0), want[l]);
  }

  private static void parts(LandUnions x, int... want) {
    for (int l = 0; l < want.length; l++) due("of(" + l + ", 5)", x.of(l, 5), want[l]);
  }

  // ---- what all calls have in common

  /** All that can be asked, in one text. */
  private static String asked(LandUnions x) {
    StringBuilder s = new StringBuilder();
    int n = x.told(0), unions = x.told(4);
    for (int w = 0; w < 16; w++) s.append(x.told(w)).append(' ');
    s.append(x.fault()).append(' ').append(x.rules()).append(' ').append(x.holds()).append(" |");
    for (int w = 0; w < 3; w++) {
      s.append(' ').append(x.all(w)).append(' ').append(x.breaks(w)).append(' ').append(x.whole(w)).append(' ').append(x.rests(w, -1, 0));
    }
    for (int l = 0; l < n; l++) {
      s.append(" | ").append(x.union(l)).append(' ').append(x.edge(l)).append(' ').append(x.propose(l, 0)).append(' ').append(x.propose(l, 1));
      for (int w = 0; w < 6; w++) s.append(' ').append(x.of(l, w));
      for (int u = 0; u < unions; u++) s.append(' ').append(x.enter(l, u, 0)).append(' ').append(x.enter(l, u, 1));
      for (int r = 0; r < 3; r++) s.append(' ').append(x.rests(r, 0, l));
      s.append(' ').append(x.go(l, 0)).append(' ').append(x.go(l, 1)).append(' ').append(goRow(x, l));
    }
    for (int u = 0; u < unions; u++) s.append(" | ").append(x.hurt(u));
    return s.toString();
  }

  /** The same, and what signs there are, by what they part with more. */
  private static String view(LandUnions x) {
    String answers = asked(x);
    text(x, "bc");
    return answers + " | " + x.fault() + ' ' + x.part() + ' ' + row(x) + ' ' + x.wipe();
  }

  /** ac|b by the greatest wall, TAKINGS alike, with the signs a| said. */
  private static LandUnions busy() {
    LandUnions x = with(world(41, 7, 1, 6, 22, 6, 8, 8, 28, 1, 6, 20), 1, 1, "ac|b");
    text(x, "a|");
    return x;
  }

  /** Six lands, twenty signs: no room for more. */
  private static LandUnions crowded() {
    LandUnions x = world(60, 10, 5, 12, 55, 20, 4, 9, 70, 25, 3, 6, 45, 12, 6, 15, 33, 5, 0, 60, 99, 99, 20, 0);
    with(x, 2, 2, "af|bcd|e");
    for (int k = 0; k < 20; k++) x.say("abcdef".charAt(k % 6));
    return x;
  }

  private static void refused(String call, Call c, int want) {
    LandUnions x = busy();
    due(call, c.on(x), want);
    due(call + ", and then all else", view(x), view(busy()));
  }

  private static void refusedWhenFull(String call, Call c, int want) {
    LandUnions x = crowded();
    due(call, c.on(x), want);
    due(call + ", and then all else", view(x), view(crowded()));
  }

  private static void unchanged(String call, Call c) {
    LandUnions x = busy();
    int first = c.on(x);
    due(call + " again", c.on(x), first);
    due(call + ", and then all else", view(x), view(busy()));
  }

  private static void refusals() {
    test(2, "They change nothing.", () -> {
      int[][] off = {{0, 1, 0, 0}, {100, 1, 0, 0}, {1, 0, 0, 0}, {1, 100, 0, 0}, {1, 1, -1, 0}, {1, 1, 21, 0}, {1, 1, 0, -1}, {1, 1, 0, 61}};
      for (int[] o : off) refused("land, a number off", x -> x.land(o[0], o[1], o[2], o[3]), OUTSIDE);
      refusedWhenFull("land, a seventh", x -> x.land(50, 50, 5, 5), FULL);
      refusedWhenFull("land, a seventh and a number off", x -> x.land(50, 50, 5, 61), OUTSIDE);
    });
    test(3, "They change nothing.", () -> {
      int[] least = {1, 1, 0, 0}, most = {99, 99, 20, 60};
      for (int what = 0; what < 4; what++) {
        int w = what;
        refused("change below the least", x -> x.change(1, w, least[w] - 1), OUTSIDE);
        refused("change above the most", x -> x.change(1, w, most[w] + 1), OUTSIDE);
        refused("change of no land", x -> x.change(3, w, 9), UNKNOWN);
        refused("change of land -1", x -> x.change(-1, w, 9), UNKNOWN);
      }
      refused("change(0, -1, 9)", x -> x.change(0, -1, 9), OUTSIDE);
      refused("change(0, 4, 9)", x -> x.change(0, 4, 9), OUTSIDE);
    });
    test(4, "They change nothing.", () -> {
      for (int[] o : new int[][] {{0, -1}, {0, 3}, {1, -1}, {1, 3}, {-1, 0}, {2, 0}}) {
        refused("set(" + o[0] + ", " + o[1] + ")", x -> x.set(o[0], o[1]), OUTSIDE);
      }
    });
    test(5, "They change nothing.", () -> {
      refused("say(32)", x -> x.say(32), OUTSIDE);
      refused("say(127)", x -> x.say(127), OUTSIDE);
      refusedWhenFull("say, a 21st", x -> x.say('f'), FULL);
      refusedWhenFull("say, a 21st that is no sign", x -> x.say(127), OUTSIDE);
    });
    test(8, "They change nothing.", () -> {
      refused("part() of a|", x -> x.part(), NO);
      refusedWhenFull("part() of too much", x -> x.part(), NO);
    });
    test(9, "They change nothing.", () -> refused("union(3)", x -> x.union(3), UNKNOWN));
    test(10, "They change nothing.", () -> {
      refused("of(3, 0)", x -> x.of(3, 0), UNKNOWN);
      refused("of(0, 6)", x -> x.of(0, 6), OUTSIDE);
    });
    test(11, "They change nothing.", () -> refused("all(3)", x -> x.all(3), OUTSIDE));
    test(12, "They change nothing.", () -> refused("breaks(3)", x -> x.breaks(3), OUTSIDE));
    test(13, "They change nothing.", () -> {
      refused("rests(0, 0, 3)", x -> x.rests(0, 0, 3), UNKNOWN);
      refused("rests(3, 0, 0)", x -> x.rests(3, 0, 0), OUTSIDE);
      refused("rests(0, 99, 0)", x -> x.rests(0, 99, 0), NONE);
    });
    test(14, "They change nothing.", () -> {
      refused("go(3, 0)", x -> x.go(3, 0), UNKNOWN);
      refused("go(0, 2)", x -> x.go(0, 2), OUTSIDE);
      refused("go(0, 13)", x -> x.go(0, 13), NONE);
    });
    test(15, "They change nothing.", () -> refused("whole(3)", x -> x.whole(3), OUTSIDE));
    test(17, "They change nothing.", () -> {
      refused("propose(3, 0)", x -> x.propose(3, 0), UNKNOWN);
      refused("propose(0, 2)", x -> x.propose(0, 2), OUTSIDE);
    });
    test(18, "They change nothing.", () -> {
      refused("enter(3, 0, 0)", x -> x.enter(3, 0, 0), LOST + UNKNOWN);
      refused("enter(0, 0, 0)", x -> x.enter(0, 0, 0), LOST + OUTSIDE);
      refused("enter(0, 2, 0)", x -> x.enter(0, 2, 0), LOST + OUTSIDE);
      refused("enter(0, 1, 2)", x -> x.enter(0, 1, 2), LOST + OUTSIDE);
    });
    test(20, "They change nothing.", () -> refused("hurt(2)", x -> x.hurt(2), OUTSIDE));
    test(21, "They change nothing.", () -> refused("edge(3)", x -> x.edge(3), UNKNOWN));
    test(22, "They change nothing.", () -> refused("told(5)", x -> x.told(5), OUTSIDE));
  }

  /** A question is no change either: the face tells of none. */
  private static void questions() {
    test(7, "`int fault()`: THE FAULT; NONE.", () -> unchanged("fault()", x -> x.fault()));
    test(10, "Of a LAND in THE PARTING:", () -> { for (int w = 0; w < 6; w++) { int k = w; unchanged("of(2, " + k + ")", x -> x.of(2, k)); } });
    test(11, "GOODS together (what = 0), BEST PLACED (1), how many PARTINGS there are (2).", () -> { for (int w = 0; w < 3; w++) { int k = w; unchanged("all(" + k + ")", x -> x.all(k)); } });
    test(12, "FIRST that breaks a REST of THE PARTING", () -> { for (int w = 0; w < 3; w++) { int k = w; unchanged("breaks(" + k + ")", x -> x.breaks(k)); } });
    test(13, "ALL PARTINGS at a REST", () -> { for (int w = 0; w < 3; w++) { int k = w; unchanged("rests(" + k + ", 0, 1)", x -> x.rests(k, 0, 1)); } });
    test(14, "GO from a LAND on", () -> { for (int l = 0; l < 3; l++) { int k = l; unchanged("go(" + k + ", 0)", x -> x.go(k, 0)); } });
    test(15, "`int whole(int what)`", () -> unchanged("whole(0)", x -> x.whole(0)));
    test(16, "`int rules()`", () -> unchanged("rules()", x -> x.rules()));
    test(17, "`int propose(int land, int what)`", () -> unchanged("propose(1, 0)", x -> x.propose(1, 0)));
    test(18, "`int enter(int land, int union, int what)`", () -> unchanged("enter(0, 1, 1)", x -> x.enter(0, 1, 1)));
    test(19, "`int holds()`", () -> unchanged("holds()", x -> x.holds()));
    test(20, "`int hurt(int union)`", () -> unchanged("hurt(0)", x -> x.hurt(0)));
    test(21, "`int edge(int land)`", () -> { for (int l = 0; l < 3; l++) { int k = l; unchanged("edge(" + k + ")", x -> x.edge(k)); } });
    test(22, "`int told(int what)`", () -> unchanged("told(4)", x -> x.told(4)));
  }

  /** Lands of which each number tells in some answer. */
  private static final int[] MIXED = {41, 7, 1, 6, 22, 6, 8, 8, 28, 1, 6, 20, 45, 12, 6, 15, 60, 10, 5, 12, 33, 5, 0, 9};

  private static void changes() {
    test(2, "`int land(int wish, int cost, int gain, int toll)`: A LAND: its number.", () -> {
      for (int n = 0; n < 6; n++) {
        LandUnions x = world(java.util.Arrays.copyOf(MIXED, 4 * n));
        asked(x);
        due("land", x.land(MIXED[4 * n], MIXED[4 * n + 1], MIXED[4 * n + 2], MIXED[4 * n + 3]), n);
        due("all behind the answers without it", asked(x), asked(world(java.util.Arrays.copyOf(MIXED, 4 * n + 4))));
      }
    });
    test(3, "`int change(int land, int what, int v)`", () -> {
      for (int k = 0; k < 24; k++) {
        int[] numbers = MIXED.clone();
        numbers[k] += 3;
        LandUnions x = with(world(MIXED), 2, 1, "ab|cf|de");
        asked(x);
        due("change", x.change(k / 4, k % 4, numbers[k]), MIXED[k]);
        due("all behind the answers before", asked(x), asked(with(world(numbers), 2, 1, "ab|cf|de")));
      }
    });
    test(4, "`int set(int which, int v)`", () -> {
      for (int walls = 0; walls < 3; walls++) {
        for (int shares = 0; shares < 3; shares++) {
          LandUnions x = with(world(MIXED), 2 - walls, 2 - shares, "ab|cf|de");
          asked(x);
          x.set(WALLS, walls);
          due("all by WALLS " + walls, asked(x), asked(with(world(MIXED), walls, 2 - shares, "ab|cf|de")));
          LandUnions y = with(world(MIXED), 2 - walls, 2 - shares, "ab|cf|de");
          asked(y);
          y.set(SHARES, shares);
          due("all by SHARES " + shares, asked(y), asked(with(world(MIXED), 2 - walls, shares, "ab|cf|de")));
        }
      }
    });
    test(8, "THE PARTING is the signs'", () -> {
      List<String> rows = new ArrayList<>();
      spread("", 0, 4, rows);
      for (String from : rows) {
        LandUnions x = with(world(java.util.Arrays.copyOf(MIXED, 16)), 0, 2, signsOf(from));
        for (String to : rows) parted(x, signsOf(to));
        asked(x);
        parted(x, signsOf(from));
        due("all of " + from, asked(x), asked(with(world(java.util.Arrays.copyOf(MIXED, 16)), 0, 2, signsOf(from))));
      }
    });
  }

  private static String signsOf(String row) {
    StringBuilder s = new StringBuilder();
    for (char u = '0'; row.indexOf(u) >= 0; u++) {
      if (u > '0') s.append('|');
      for (int l = 0; l < row.length(); l++) if (row.charAt(l) == u) s.append((char) ('a' + l));
    }
    return s.toString();
  }

  private static void manyCalls() {
    test(1, "An object is used for at most 512 calls after it has been made", () -> {
      LandUnions x = new LandUnions();
      due("call 1", x.land(40, 10, 1, 4), 0);
      due("call 2", x.land(40, 20, 2, 9), 1);
      int was = 10;
      for (int call = 3; call < 512; call += 2) {
        int cost = 1 + call % 35;
        due("call " + call, x.change(0, COST, cost), was);
        was = cost;
        int price = Math.min(cost + 1, 22 + 4), bought = 40 - price, sold = cost + 1 <= 26 ? bought : 0;
        if (cost + 1 + 9 <= 22) sold += 40 - (cost + 10);
        int takings = cost + 1 <= 26 ? 0 : 4 * bought;
        due("call " + (call + 1), x.of(0, 0), bought * bought + 2 * sold + 2 * takings);
      }
    });
    test(1, "nothing about an object after its 512th call", () -> {
      String fresh = asked(with(world(41, 9, 1, 6, 22, 6, 8, 8, 28, 1, 6, 20), 1, 1, "ab|c"));
      for (int changes = 1; changes <= 260; changes++) {
        LandUnions x = with(world(41, 7, 1, 6, 22, 6, 8, 8, 28, 1, 6, 20), 1, 1, "ab|c");
        asked(x);
        for (int k = changes; k > 0; k--) x.change(0, COST, k == 1 ? 9 : 40 + k % 50);
        due("all behind " + changes + " changes", asked(x), fresh);
      }
      LandUnions y = with(world(41, 9, 1, 6, 22, 6, 8, 8, 28, 1, 6, 20), 1, 1, "ab|c");
      for (int k = 0; k < 300; k++) y.edge(k % 3);
      due("all behind 300 calls of edge", asked(y), fresh);
    });
  }

  // ---- 1 lands, partings

  private static void constants() {
    test(1, "UNKNOWN = -1, OUTSIDE = -2, STATE = -3, FULL = -4, NO = -5, NONE = -6", () -> {
      int[] got = {LandUnions.UNKNOWN, LandUnions.OUTSIDE, LandUnions.STATE, LandUnions.FULL, LandUnions.NO, LandUnions.NONE};
      for (int k = 0; k < 6; k++) due("constant " + k, got[k], -1 - k);
    });
    test(1, "LOST = -1000000000", () -> due("LOST", LandUnions.LOST, -1000000000));
  }

  private static void newObject() {
    test(1, "No LANDS", () -> {
      LandUnions x = new LandUnions();
      due("told(0)", x.told(0), 0);
      due("told(4)", x.told(4), 0);
      for (int w = 10; w <= 15; w++) due("told(" + w + ")", x.told(w), NONE);
      due("change(0, 0, 1)", x.change(0, WISH, 1), UNKNOWN);
      due("union(0)", x.union(0), UNKNOWN);
      due("of(0, 0)", x.of(0, 0), UNKNOWN);
      due("rests(0, 0, 0)", x.rests(0, 0, 0), UNKNOWN);
      due("go(0, 0)", x.go(0, 0), UNKNOWN);
      due("go(0, 10)", x.go(0, 10), UNKNOWN);
      due("propose(0, 0)", x.propose(0, 0), UNKNOWN);
      due("enter(0, 0, 0)", x.enter(0, 0, 0), LOST + UNKNOWN);
      due("edge(0)", x.edge(0), UNKNOWN);
      due("hurt(0)", x.hurt(0), OUTSIDE);
    });
    test(11, "how many PARTINGS there are (2)", () -> {
      LandUnions x = new LandUnions();
      due("all(2): the one without UNIONS", x.all(2), 1);
      due("all(1)", x.all(1), 0);
      due("all(0)", x.all(0), 0);
    });
    test(12, "NONE: it is at rest.", () -> { for (int r = 0; r < 3; r++) due("breaks(" + r + ") without lands", new LandUnions().breaks(r), NONE); });
    test(13, "how many (i = -1)", () -> { for (int r = 0; r < 3; r++) due("rests(" + r + ", -1, 0) without lands", new LandUnions().rests(r, -1, 0), 1); });
    test(15, "NEEDS no more than SPARE", () -> {
      due("whole(0) without lands", new LandUnions().whole(0), 0);
      due("whole(1) without lands", new LandUnions().whole(1), 0);
      due("whole(2) without lands", new LandUnions().whole(2), 1);
    });
    test(16, "`int rules()`: RULES, as bits.", () -> due("rules() without lands", new LandUnions().rules(), 7));
    test(19, "`int holds()`: HOLDS.", () -> due("holds() without lands", new LandUnions().holds(), 0));
    test(1, "both rules 0", () -> {
      LandUnions x = new LandUnions();
      due("told(2)", x.told(2), 0);
      due("told(3)", x.told(3), 0);
      due("set(0, 1)", x.set(WALLS, 1), 0);
      due("set(1, 1)", x.set(SHARES, 1), 0);
    });
    test(1, "the PAD is empty.", () -> {
      LandUnions x = new LandUnions();
      due("told(1)", x.told(1), 0);
      due("wipe()", x.wipe(), 0);
      due("say('a')", x.say('a'), 1);
    });
    test(1, "`LandUnions()`", () -> {
      LandUnions x = crowded(), y = new LandUnions();
      for (int w = 0; w < 5; w++) due("told(" + w + ") of one made behind another", y.told(w), 0);
      y.land(9, 9, 0, 0);
      y.set(WALLS, 1);
      y.wipe();
      due("all of the other", view(x), view(crowded()));
    });
  }

  private static LandUnions none() { return new LandUnions(); }

  private static void land() {
    test(2, "WISH (1 to 99)", () -> {
      for (int off : new int[] {0, 100, -1, 257, 65537, MIN, MAX}) due("land, WISH " + off, none().land(off, 9, 0, 0), OUTSIDE);
      due("land, WISH 1", none().land(1, 9, 0, 0), 0);
      due("land, WISH 99", none().land(99, 9, 0, 0), 0);
      due("of(0, 2), WISH 99", world(99, 9, 0, 0).of(0, 2), 90);
    });
    test(2, "COST (1 to 99)", () -> {
      for (int off : new int[] {0, 100, -1, 257, 65537, MIN, MAX}) due("land, COST " + off, none().land(9, off, 0, 0), OUTSIDE);
      due("told(10), COST 1", world(9, 1, 0, 0).told(10), 1);
      due("told(10), COST 99", world(9, 99, 0, 0).told(10), 99);
    });
    test(2, "GAIN (0 to 20)", () -> {
      for (int off : new int[] {-1, 21, 256, 65536, MIN, MAX}) due("land, GAIN " + off, none().land(99, 9, off, 0), OUTSIDE);
      due("of(0, 1), GAIN 0", world(99, 9, 0, 0).of(0, 1), 9);
      due("of(0, 1), GAIN 20", world(99, 9, 20, 0).of(0, 1), 29);
    });
    test(2, "TOLL (0 to 60)", () -> {
      for (int off : new int[] {-1, 61, 256, 65536, MIN, MAX}) due("land, TOLL " + off, none().land(99, 9, 0, off), OUTSIDE);
      due("of(0, 4), TOLL 0", world(99, 9, 0, 0).of(0, 4), 0);
      due("of(0, 4), TOLL 60", world(99, 9, 0, 60).of(0, 4), 60);
    });
    test(2, "LANDS, 6 at most", () -> {
      LandUnions x = calm(5);
      due("land, a sixth", x.land(9, 9, 0, 0), 5);
      due("land, a seventh", x.land(9, 9, 0, 0), FULL);
      due("land, an eighth", x.land(9, 9, 0, 0), FULL);
      due("told(0)", x.told(0), 6);
      due("told(4)", x.told(4), 6);
      due("union(6)", x.union(6), UNKNOWN);
    });
    test(2, "numbered from 0 on (a to f)", () -> {
      LandUnions x = none();
      for (int l = 0; l < 6; l++) {
        due("land, WISH 0: takes no number", x.land(0, 9, 0, 0), OUTSIDE);
        due("land", x.land(9, 10 + l, 0, 0), l);
        due("told(1" + l + ")", x.told(10 + l), 10 + l);
      }
      for (char c = 'a'; c <= 'f'; c++) {
        parted(x, c + "|" + "abcdef".replace("" + c, ""));
        for (int l = 0; l < 6; l++) due(c + " alone, union(" + l + ")", x.union(l) == x.union(c - 'a') ? 1 : 0, l == c - 'a' ? 1 : 0);
      }
    });
    test(2, "A LAND: its number. OUTSIDE; FULL.", () -> {
      due("land, a seventh, WISH 0", calm(6).land(0, 9, 0, 0), OUTSIDE);
      due("land, a seventh, COST 100", calm(6).land(9, 100, 0, 0), OUTSIDE);
      due("land, a seventh, GAIN 21", calm(6).land(9, 9, 21, 0), OUTSIDE);
      due("land, a seventh, TOLL -1", calm(6).land(9, 9, 0, -1), OUTSIDE);
    });
  }

  private static void change() {
    test(3, "0 WISH, 1 COST, 2 GAIN, 3 TOLL of a LAND: which it was.", () -> {
      int[] least = {1, 1, 0, 0}, most = {99, 99, 20, 60}, first = {30, 10, 2, 5};
      for (int w = 0; w < 4; w++) {
        LandUnions x = world(30, 10, 2, 5, 30, 10, 2, 5);
        due("change(1, " + w + ") to the least", x.change(1, w, least[w]), first[w]);
        due("change(1, " + w + ") below", x.change(1, w, least[w] - 1), OUTSIDE);
        due("change(1, " + w + ") to the most", x.change(1, w, most[w]), least[w]);
        due("change(1, " + w + ") above", x.change(1, w, most[w] + 1), OUTSIDE);
        for (int off : new int[] {MIN, MAX, -1, 256 + first[w], 65536 + first[w]}) due("change(1, " + w + ", " + off + ")", x.change(1, w, off), OUTSIDE);
        due("change(1, " + w + ") to the same", x.change(1, w, most[w]), most[w]);
        due("change(1, " + w + ") back", x.change(1, w, first[w]), most[w]);
        due("change(0, " + w + "): the other LAND", x.change(0, w, 1), first[w]);
      }
    });
    test(3, "WISH (1 to 99), COST (1 to 99), GAIN (0 to 20), TOLL (0 to 60)", () -> {
      LandUnions x = world(30, 10, 2, 5);
      due("change(0, 0, 0)", x.change(0, WISH, 0), OUTSIDE);
      due("change(0, 1, 0)", x.change(0, COST, 0), OUTSIDE);
      due("change(0, 2, 0)", x.change(0, GAIN, 0), 2);
      due("change(0, 3, 0)", x.change(0, TOLL, 0), 5);
      due("change(0, 2, 21)", x.change(0, GAIN, 21), OUTSIDE);
      due("change(0, 3, 21)", x.change(0, TOLL, 21), 0);
      due("change(0, 3, 61)", x.change(0, TOLL, 61), OUTSIDE);
      due("change(0, 1, 61)", x.change(0, COST, 61), 10);
      due("change(0, 0, 61)", x.change(0, WISH, 61), 30);
    });
    test(3, "which it was. UNKNOWN; OUTSIDE.", () -> {
      LandUnions x = calm(2);
      for (int land : new int[] {-1, 2, 5, 6, MIN, MAX}) {
        due("change(" + land + ", 0, 9)", x.change(land, WISH, 9), UNKNOWN);
        due("change(" + land + ", 4, 9): both off", x.change(land, 4, 9), UNKNOWN);
        due("change(" + land + ", 0, 100): both off", x.change(land, WISH, 100), UNKNOWN);
      }
      for (int what : new int[] {-1, 4, MIN, MAX}) due("change(1, " + what + ", 9)", x.change(1, what, 9), OUTSIDE);
    });
    test(3, "`int change(int land, int what, int v)`", () -> {
      LandUnions x = calm(6);
      for (int l = 0; l < 6; l++) due("change(" + l + ", 1, 20)", x.change(l, COST, 20 + l), 10);
      for (int l = 0; l < 6; l++) due("told(1" + l + ")", x.told(10 + l), 20 + l);
    });
  }

  private static void set() {
    test(4, "0 WALLS, 1 SHARES (0 to 2 each): which it was.", () -> {
      LandUnions x = none();
      for (int which = 0; which < 2; which++) {
        due("set(" + which + ", 0)", x.set(which, 0), 0);
        due("set(" + which + ", 2)", x.set(which, 2), 0);
        due("set(" + which + ", 1)", x.set(which, 1), 2);
        due("set(" + which + ", 2)", x.set(which, 2), 1);
        due("told of the other", x.told(3 - which), which == 0 ? 0 : 2);
      }
    });
    test(4, "which it was. OUTSIDE.", () -> {
      LandUnions x = with(calm(1), 1, 2, "a");
      for (int which = 0; which < 2; which++) {
        for (int off : new int[] {-1, 3, 256, MIN, MAX}) due("set(" + which + ", " + off + ")", x.set(which, off), OUTSIDE);
      }
      for (int off : new int[] {-1, 2, MIN, MAX}) due("set(" + off + ", 0)", x.set(off, 0), OUTSIDE);
      due("told(2)", x.told(2), 1);
      due("told(3)", x.told(3), 2);
    });
  }

  private static void say() {
    test(5, "SIGNS (codes 33 to 126)", () -> {
      LandUnions x = none();
      for (int off : new int[] {32, 127, 0, -1, 97 + 256, 97 - 256, 97 + 65536, MIN, MAX}) due("say(" + off + ")", x.say(off), OUTSIDE);
      due("told(1)", x.told(1), 0);
      due("say(33)", x.say(33), 1);
      due("say(126)", x.say(126), 2);
      for (int code = 33; code <= 126; code++) due("say(" + code + ")", none().say(code), 1);
    });
    test(5, "SIGNS (codes 33 to 126), 20 at most", () -> {
      LandUnions x = none();
      for (int n = 1; n <= 20; n++) due("say, sign " + n, x.say('a'), n);
      due("say, a 21st", x.say('a'), FULL);
      due("told(1)", x.told(1), 20);
      due("wipe()", x.wipe(), 20);
      for (int n = 1; n <= 20; n++) due("say behind wipe, sign " + n, x.say('a'), n);
      due("say behind wipe, a 21st", x.say('a'), FULL);
    });
    test(5, "A sign more: how many. OUTSIDE; FULL.", () -> {
      LandUnions x = none();
      for (int n = 1; n <= 20; n++) x.say('a');
      for (int off : new int[] {32, 127, MIN, MAX}) due("say(" + off + ") on a full PAD", x.say(off), OUTSIDE);
    });
    test(5, "`int say(int sign)`", () -> {
      LandUnions x = calm(2);
      for (int round = 0; round < 10; round++) due("part(), round " + round, parted(x, "b|a"), 2);
      due("say behind part", x.say('a'), 1);
    });
  }

  private static void wipe() {
    test(6, "Signs go: how many there were.", () -> {
      LandUnions x = calm(2);
      due("wipe() of none", x.wipe(), 0);
      x.say('a');
      due("wipe() of one", x.wipe(), 1);
      due("wipe() again", x.wipe(), 0);
      for (int n = 0; n < 25; n++) x.say('b');
      due("wipe() of twenty", x.wipe(), 20);
      due("told(1)", x.told(1), 0);
      due("fault(): no sign is left", x.fault(), 0);
      text(x, "ab");
      due("fault() of new signs", x.fault(), NONE);
      due("told(4): THE PARTING stays", x.told(4), 2);
    });
  }

  private static int faultOf(int lands, String signs) {
    LandUnions x = calm(lands);
    text(x, signs);
    return x.fault();
  }

  private static void faults(int lands, String signs, int want) { due("fault() of " + signs + " with " + lands, faultOf(lands, signs), want); }

  private static void fault() {
    test(7, "a | not ahead of a letter", () -> {
      faults(3, "|", 0);
      faults(3, "|abc", 0);
      faults(3, "a||bc", 2);
      faults(3, "a|b||c", 4);
      faults(3, "a|b|c", NONE);
    });
    test(7, "not if all have been", () -> {
      faults(1, "a|", 1);
      faults(2, "ab|", 2);
      faults(2, "a|b|", 3);
      faults(3, "ab|", 3);
      faults(6, "abcdef|", 6);
      faults(6, "a|b|c|d|e|f|", 11);
      faults(6, "a|b|c|d|e|", 10);
    });
    test(7, "a letter that was", () -> {
      faults(3, "aa", 1);
      faults(3, "a|a", 2);
      faults(3, "abcc", 3);
      faults(3, "cbc", 2);
      faults(1, "aa", 1);
      faults(6, "fedcbaf", 6);
    });
    test(7, "or of no LAND", () -> {
      for (int n = 1; n <= 6; n++) {
        faults(n, "" + (char) ('a' + n), 0);
        faults(n, "a" + (char) ('a' + n), 1);
        faults(n, "" + (char) ('a' + n - 1), n == 1 ? NONE : 1);
        for (char off : "`ABF!{}~1z".toCharArray()) faults(n, "a" + off, 1);
      }
    });
    test(7, "the number of signs, if more must come", () -> {
      faults(1, "", 0);
      faults(6, "", 0);
      faults(2, "a", 1);
      faults(2, "b|", 2);
      faults(6, "a|b|c|d|e", 9);
      faults(6, "abcde", 5);
    });
    test(7, "the place (from 0 on) of the first sign that can not stand there", () -> {
      faults(3, "||", 0);
      faults(3, "aa||", 1);
      faults(3, "ab!a|", 2);
      faults(3, "abc|||", 3);
      faults(6, "abcdefabcdefabcdefab", 6);
      faults(6, "!!!!!!!!!!!!!!!!!!!!", 0);
    });
    test(7, "THE FAULT; NONE.", () -> {
      faults(1, "a", NONE);
      faults(2, "ba", NONE);
      faults(2, "b|a", NONE);
      faults(6, "fedcba", NONE);
      faults(6, "f|e|d|c|b|a", NONE);
    });
    test(7, "(Without LANDS the first sign can not stand.)", () -> {
      faults(0, "", 0);
      faults(0, "a", 0);
      faults(0, "|", 0);
      faults(0, "abcdefabcdefabcdefab", 0);
    });
    test(7, "letters of all LANDS", () -> {
      LandUnions x = calm(1);
      text(x, "ab");
      due("fault(): b is of no LAND", x.fault(), 1);
      x.land(9, 9, 0, 0);
      due("fault() with b", x.fault(), NONE);
      x.land(9, 9, 0, 0);
      due("fault() with c: more must come", x.fault(), 2);
    });
  }

  private static void part() {
    test(8, "NO: there is a FAULT.", () -> {
      for (String signs : new String[] {"", "|", "a", "ab", "ab|", "ab|c|", "abc|", "abca", "|abc", "a||bc", "abd", "abcd", "abC"}) {
        LandUnions x = with(calm(3), 0, 0, "a|bc");
        text(x, signs);
        due("part() of " + signs, x.part(), NO);
        due("told(1) then", x.told(1), signs.length());
        due("THE PARTING then", row(x), "011");
      }
      due("part() without lands", none().part(), NO);
      LandUnions x = none();
      x.say('a');
      due("part() of a without lands", x.part(), NO);
    });
    test(8, "THE PARTING is the signs' (they are empty then): UNIONS.", () -> {
      LandUnions x = calm(3);
      text(x, "ca|b");
      due("part()", x.part(), 2);
      due("told(1)", x.told(1), 0);
      due("told(4)", x.told(4), 2);
      due("part() again", x.part(), NO);
      due("THE PARTING", row(x), "010");
      due("part() of a single LAND", parted(calm(1), "a"), 1);
      due("part() into one", parted(calm(6), "fedcba"), 1);
      due("part() into six", parted(calm(6), "f|e|d|c|b|a"), 6);
    });
    test(8, "UNIONS are numbered by their least LANDS, as they come.", () -> {
      String[][] rows = {{"f|e|d|c|b|a", "012345"}, {"fa|e|d|c|b", "012340"}, {"f|edcba", "000001"}, {"bcdef|a", "011111"}, {"ce|fb|da", "012021"}};
      for (String[] r : rows) {
        LandUnions x = calm(6);
        parted(x, r[0]);
        due("row of " + r[0], row(x), r[1]);
      }
    });
    test(8, "(none is empty; in any order)", () -> {
      for (String signs : new String[] {"ac|b", "ca|b", "b|ac", "b|ca"}) {
        LandUnions x = calm(3);
        due("part() of " + signs, parted(x, signs), 2);
        due("row of " + signs, row(x), "010");
      }
    });
  }

  private static void union() {
    test(9, "The UNION of a LAND. UNKNOWN.", () -> {
      for (int n = 0; n <= 6; n++) {
        LandUnions x = calm(n);
        for (int off : new int[] {-1, n, 6, 7, MIN, MAX}) due("union(" + off + ") of " + n, x.union(off), UNKNOWN);
        if (n > 0) due("union of the last of " + n, x.union(n - 1), n - 1);
      }
    });
    test(9, "all apart at first", () -> due("row", row(calm(6)), "012345"));
    test(9, "a new LAND is apart.", () -> {
      LandUnions x = with(calm(3), 0, 0, "abc");
      x.land(9, 9, 0, 0);
      due("row", row(x), "0001");
      due("told(4)", x.told(4), 2);
      parted(x, "ad|bc");
      x.land(9, 9, 0, 0);
      due("row", row(x), "01102");
      due("land, a number off", x.land(0, 9, 0, 0), OUTSIDE);
      due("told(4)", x.told(4), 3);
    });
  }

  // ---- 2 goods

  private static void of() {
    test(10, "WALL of a UNION of two or more: by WALLS (a rule): 0 the least TOLL of its LANDS (at first), 1 the greatest, 2 their mean, cut", () -> {
      int[][] tolls = {{10, 5}, {0, 60}, {0, 1}, {7, 7}, {60, 60}, {2, 5, 7}, {0, 0, 1}, {1, 1, 0}, {60, 59, 59, 59, 59, 59}};
      int[][] walls = {{5, 10, 7}, {0, 60, 30}, {0, 1, 0}, {7, 7, 7}, {60, 60, 60}, {2, 7, 4}, {0, 1, 0}, {0, 1, 0}, {59, 60, 59}};
      for (int k = 0; k < tolls.length; k++) {
        LandUnions x = none();
        for (int toll : tolls[k]) x.land(9, 9, 0, toll);
        parted(x, "abcdef".substring(0, tolls[k].length));
        for (int l = 0; l < tolls[k].length; l++) due("of(" + l + ", 4) at first", x.of(l, 4), walls[k][0]);
        for (int w = 0; w < 3; w++) {
          x.set(WALLS, w);
          for (int l = 0; l < tolls[k].length; l++) due("of(" + l + ", 4) by WALLS " + w, x.of(l, 4), walls[k][w]);
        }
      }
    });
    test(10, "of one alone its TOLL", () -> {
      LandUnions x = with(world(9, 9, 0, 4, 9, 9, 0, 7, 9, 9, 0, 60), 0, 0, "ab|c");
      for (int w = 0; w < 3; w++) {
        x.set(WALLS, w);
        due("of(2, 4) by WALLS " + w, x.of(2, 4), 60);
      }
      due("of(0, 4) of the only land", world(9, 9, 0, 33).of(0, 4), 33);
    });
    test(10, "of itself and its UNION at COST and GAIN of that one, of others so much and its own UNION's WALL more.", () -> {
      LandUnions x = world(50, 10, 2, 3, 50, 30, 1, 5);
      due("of(1, 1): 12 and its own wall", x.of(1, 1), 17);
      due("of(0, 1): of itself without a wall", x.of(0, 1), 12);
      parted(x, "ab");
      due("of(1, 1) as one", x.of(1, 1), 12);
      due("of(0, 1) of the dearest", world(1, 99, 20, 60).of(0, 1), 119);
    });
    test(10, "(of like ones of the least number)", () -> {
      LandUnions x = world(30, 10, 0, 5, 30, 15, 0, 5, 30, 10, 0, 0);
      due("of(1, 3): a at 15, itself at 15, c at 15", x.of(1, 3), 0);
      due("of(1, 5): so it pays the toll", x.of(1, 5), 5 * 15);
      due("of(2, 3): a and itself at 10", x.of(2, 3), 0);
      due("of(0, 3): itself and c, at 15", x.of(0, 3), 0);
      parted(x, "bc|a");
      due("of(2, 3): a at 10 and the wall of 0", x.of(2, 3), 0);
      x.set(WALLS, 1);
      due("of(2, 3): a at 15", x.of(2, 3), 2);
      due("of(5, 3): six alike", calm(6).of(5, 3), 0);
    });
    test(10, "as many as WISH is above it (0, if it is not)", () -> {
      int[] wishes = {1, 19, 20, 21, 99}, bought = {0, 0, 0, 1, 79};
      for (int k = 0; k < 5; k++) {
        LandUnions x = world(wishes[k], 20, 0, 0);
        due("of(0, 2), WISH " + wishes[k], x.of(0, 2), bought[k]);
        due("of(0, 1), WISH " + wishes[k], x.of(0, 1), 20);
        due("of(0, 0), WISH " + wishes[k], x.of(0, 0), bought[k] * bought[k]);
      }
    });
    test(10, "3 of whom (NONE: none)", () -> {
      LandUnions x = world(20, 20, 5, 9, 26, 20, 5, 9, 25, 99, 5, 0);
      due("of(0, 3), WISH below the price", x.of(0, 3), NONE);
      due("of(1, 3), WISH one above", x.of(1, 3), 1);
      due("of(2, 3), WISH at the price of a", x.of(2, 3), NONE);
      due("of(2, 1)", x.of(2, 1), 25);
      due("of(0, 0): nobody buys of it", x.of(0, 0), 0);
    });
    test(10, "TAKINGS of a LAND: WALL times what it buys of one that is not of its UNION.", () -> {
      parts(world(50, 10, 0, 3, 50, 30, 0, 5), 0, 5 * 35);
      parts(with(world(50, 10, 0, 3, 50, 30, 0, 5), 0, 0, "ab"), 0, 0);
      parts(world(50, 10, 0, 3, 50, 30, 0, 0), 0, 0);
      parts(world(50, 10, 0, 3, 15, 30, 0, 5), 0, 0);
      parts(world(50, 10, 0, 3, 16, 30, 0, 5), 0, 5);
      parts(world(99, 1, 0, 3, 99, 99, 0, 60), 0, 60 * 38);
    });
    test(10, "0 each keeps its own (at first)", () -> {
      LandUnions x = outsideSeller();
      x.set(WALLS, 1);
      parted(x, "ab|c");
      parts(x, 200, 100, 0);
      goods(x, 800, 300, 420);
    });
    test(10, "1 all alike, what is left over one each to the LANDS of the least numbers", () -> {
      // a sells at 5, over a wall of 1: b, c and d buy 1 + k, 2 and 2
      int[][] due = {{2, 2, 1}, {2, 2, 2}, {3, 2, 2}, {3, 3, 2}, {3, 3, 3}};
      for (int k = 0; k < 5; k++) parts(with(world(5, 5, 0, 0, 7 + k, 99, 0, 1, 8, 99, 0, 1, 8, 99, 0, 1), 0, 1, "bcd|a"), 0, due[k][0], due[k][1], due[k][2]);
      parts(with(world(9, 99, 0, 7, 5, 5, 0, 0), 0, 1, "a|b"), 0, 0);
      parts(with(world(9, 99, 0, 1, 6, 99, 0, 1, 5, 5, 0, 0), 0, 1, "ab|c"), 2, 1, 0);
      parts(with(world(9, 99, 0, 3, 5, 5, 0, 0), 0, 1, "a|b"), 3, 0);
    });
    test(10, "2 by WISHES (cut; what is left over likewise)", () -> {
      // over a wall of 2 b, c and d buy 6, 8 and 13, so 54 are parted by 13, 15 and 20: 14.6, 16.9 and 22.5
      parts(with(world(5, 5, 0, 0, 13, 99, 0, 2, 15, 99, 0, 2, 20, 99, 0, 2), 0, 2, "bcd|a"), 0, 15, 17, 22);
      // over 1 10, 10 and 20 are bought, by WISHES of 16, 16 and 26: 11.0, 11.0 and 17.9
      parts(with(world(5, 5, 0, 0, 16, 99, 0, 1, 16, 99, 0, 1, 26, 99, 0, 1), 0, 2, "bcd|a"), 0, 12, 11, 17);
      // nothing is left over: 4 x 6 and 4 x 6 by 15 and 15
      parts(with(world(5, 5, 0, 0, 15, 99, 0, 4, 15, 99, 0, 4), 0, 2, "bc|a"), 0, 24, 24);
      // a WISH of 1 buys nothing and has a part: 60 x 34 by 99 and 1
      parts(with(world(99, 99, 0, 60, 1, 99, 0, 60, 5, 5, 0, 0), 0, 2, "ab|c"), 2020, 20, 0);
      // what is left over of 1 comes to the least number, not to the greatest part
      parts(with(world(1, 99, 0, 1, 7, 99, 0, 1, 5, 5, 0, 0), 0, 2, "ab|c"), 1, 0, 0);
      parts(with(world(9, 9, 0, 2, 9, 9, 0, 2), 0, 2, "ab"), 0, 0);
    });
    test(10, "twice its GAIN times what all buy of it", () -> {
      goods(world(50, 10, 2, 9), 38 * 38 + 2 * 2 * 38);
      goods(world(50, 10, 0, 9), 40 * 40);
      goods(world(5, 10, 2, 9), 0);
      goods(world(5, 10, 2, 9, 22, 50, 9, 9), 2 * 2 * 1, 1 + 2 * 9);
      goods(world(99, 1, 20, 60, 99, 1, 20, 60), 78 * 78 + 40 * 78, 78 * 78 + 40 * 78);
      goods(with(world(99, 1, 20, 60, 99, 1, 20, 60), 0, 0, "ab"), 78 * 78 + 40 * 156, 78 * 78);
    });
    test(10, "5 its part of TAKINGS. UNKNOWN; OUTSIDE.", () -> {
      LandUnions x = calm(2);
      for (int land : new int[] {-1, 2, 6, MIN, MAX}) for (int what : new int[] {0, 5, 6, -1}) due("of(" + land + ", " + what + ")", x.of(land, what), UNKNOWN);
      for (int what : new int[] {-1, 6, 10, MIN, MAX}) due("of(1, " + what + ")", x.of(1, what), OUTSIDE);
    });
  }

  private static void all() {
    test(11, "BEST PLACED: the most GOODS together of all PARTINGS.", () -> {
      // apart b buys 5 of itself: 25 + 2 x 4 x 5; with a 8 of a: 64
      LandUnions x = world(50, 24, 0, 3, 32, 23, 4, 5);
      due("all(1): apart", x.all(1), 676 + 65);
      parted(x, "ab");
      due("all(0)", x.all(0), 676 + 64);
      due("all(1) is of all PARTINGS", x.all(1), 676 + 65);
      // c buys 20 of a over 10, with a 30 of a, with b 27 of b, at a GAIN of 4: a|bc is best
      LandUnions y = world(50, 24, 0, 3, 32, 23, 4, 5, 54, 99, 0, 10);
      due("all(0): apart", y.all(0), 676 + 65 + 800);
      due("all(1): a|bc", y.all(1), 676 + (25 + 8 * 32) + 729);
      parted(y, "ac|b");
      due("all(0): ac|b", y.all(0), 676 + 65 + 900);
      parted(y, "a|bc");
      due("all(0): a|bc", y.all(0), 676 + (25 + 8 * 32) + 729);
      due("all(1) of one", world(50, 10, 2, 9).all(1), 38 * 38 + 4 * 38);
      due("all(1) of none that buys", world(5, 10, 2, 9).all(1), 0);
    });
    test(11, "how many PARTINGS there are (2)", () -> {
      int[] howMany = {1, 1, 2, 5, 15, 52, 203};
      for (int n = 0; n <= 6; n++) due("all(2) of " + n, calm(n).all(2), howMany[n]);
    });
    test(11, "how many PARTINGS there are (2). OUTSIDE.", () -> {
      for (int off : new int[] {-1, 3, MIN, MAX}) due("all(" + off + ")", calm(2).all(off), OUTSIDE);
    });
  }

  // ---- 3 rests

  private static void breaks() {
    test(12, "STAY (0): no LAND has more GOOD by LEAVING.", () -> {
      due("breaks(0): as much is not more", with(likeForB(), 0, 0, "ab").breaks(STAY), NONE);
      due("breaks(0): one more", with(oneLessForB(), 0, 0, "ab").breaks(STAY), 1);
      due("breaks(0): one less", with(oneMoreForA(), 0, 0, "ab").breaks(STAY), NONE);
      due("breaks(0): who is apart can not leave", oneLessForB().breaks(STAY), NONE);
      LandUnions both = with(world(11, 8, 2, 10, 11, 8, 2, 10, 15, 8, 1, 2), 0, 0, "abc");
      due("breaks(0): a and b would leave, the first", both.breaks(STAY), 0);
    });
    test(12, "no LAND has more GOOD in another UNION that is there", () -> {
      due("breaks(1): one more", oneMoreForA().breaks(JOIN), 101);
      // b has as much with a as apart: it is a that joins b
      due("breaks(1): as much is not more", likeForB().breaks(JOIN), 101);
      LandUnions turned = world(13, 8, 3, 10, 15, 8, 1, 2);
      due("breaks(1): the same the other way round", turned.breaks(JOIN), 110);
      due("breaks(1) of all in one: no other is there", with(oneMoreForA(), 0, 0, "ab").breaks(JOIN), NONE);
    });
    test(12, "(of which none has less GOOD then than now)", () -> {
      due("breaks(1): b would have one less, so a does not come in", oneLessForB().breaks(JOIN), NONE);
      due("breaks(1): b would have as much", likeForB().breaks(JOIN), 101);
      // a has 900 with c, not 884; b, left alone, 300, not 384, but it is not of that UNION
      due("breaks(1): one left behind has less", with(world(35, 50, 0, 4, 25, 50, 0, 10, 15, 5, 0, 3), 0, 0, "ab|c").breaks(JOIN), 101);
    });
    test(12, "CORE (2): no set of LANDS (not a UNION that is there) would all have more GOOD as one UNION", () -> {
      due("breaks(2): b has as much", likeForB().breaks(CORE), NONE);
      due("breaks(2): b has as much, a one more", oneMoreForA().breaks(CORE), NONE);
      // a buys 9 of b over 1: 81 + 18, or 10: 100; b sells one more at a GAIN of 1
      LandUnions least = world(33, 30, 4, 1, 32, 22, 1, 2);
      due("breaks(2): one and two more", least.breaks(CORE), 1003);
      parted(least, "ab");
      due("breaks(2): the UNION that is there", least.breaks(CORE), NONE);
      due("breaks(2): a set of one", with(oneLessForB(), 0, 0, "ab").breaks(CORE), 1002);
    });
    test(12, "those that are left behind in each UNION staying together", () -> {
      LandUnions x = leftBehind();
      goods(x, 576 + 2 * (24 + 24 + 24 + 15), 576, 576, 225 + 2 * 135);
      // b and c keep a wall of 0, so a loses nothing by them and sells 9 more to d
      due("breaks(2)", x.breaks(CORE), 1009);
    });
    test(12, "of JOIN 100 and 10 times the LAND and the UNION (by LANDS, then UNIONS)", () -> {
      // a would have 900 with c, not 884; b 384 with a and 400 with c, not 300
      due("breaks(1): a, before b in an earlier UNION", world(35, 50, 0, 4, 25, 50, 0, 10, 15, 5, 0, 3).breaks(JOIN), 102);
      // a would have 100 with b and 121 with c, not 96
      due("breaks(1): the first UNION, not the best", world(16, 30, 0, 5, 32, 6, 0, 11, 32, 5, 0, 11).breaks(JOIN), 101);
      // only f buys: of e, over its TOLL of 5 or, with a, over none; by the greatest wall it must be with e
      LandUnions six = world(5, 9, 0, 0, 5, 9, 0, 0, 5, 9, 0, 0, 5, 9, 0, 0, 5, 5, 0, 0, 16, 30, 0, 5);
      due("breaks(1): the last LAND with the first", six.breaks(JOIN), 100 + 50);
      six.set(WALLS, 1);
      due("breaks(1): the last two", six.breaks(JOIN), 100 + 50 + 4);
    });
    test(12, "if STAY does not break it (then as of STAY)", () -> {
      // a has 884 apart, 800 with b by the greatest wall, 884 by the least, and 900 with c
      LandUnions x = with(world(35, 50, 0, 4, 25, 50, 0, 10, 15, 5, 0, 3), 1, 0, "ab|c");
      due("breaks(0)", x.breaks(STAY), 0);
      due("breaks(1)", x.breaks(JOIN), 0);
      x.set(WALLS, 0);
      due("breaks(0)", x.breaks(STAY), NONE);
      due("breaks(1)", x.breaks(JOIN), 101);
    });
    test(12, "of CORE 1000 and the least set as bits", () -> {
      LandUnions three = world(30, 10, 1, 4, 30, 20, 5, 6, 30, 20, 5, 6);
      due("breaks(2): ab, ac and abc would", three.breaks(CORE), 1003);
      LandUnions turned = world(30, 20, 5, 6, 30, 20, 5, 6, 30, 10, 1, 4);
      due("breaks(2): ac, bc and abc would", turned.breaks(CORE), 1005);
      LandUnions six = world(5, 9, 0, 0, 5, 9, 0, 0, 5, 9, 0, 0, 5, 9, 0, 0, 33, 30, 4, 1, 32, 2, 1, 2);
      due("breaks(2): e and f", six.breaks(CORE), 1000 + 16 + 32);
      due("breaks(2): a, the least of all", with(outsideSeller(), 1, 0, "ab|c").breaks(CORE), 1001);
      // all buy of f at 3 or, over 1, at 4; as one of all six each has more, and f sells more
      LandUnions all = world(9, 99, 0, 1, 9, 99, 0, 1, 9, 99, 0, 1, 9, 99, 0, 1, 9, 99, 0, 1, 9, 2, 1, 1);
      due("breaks(2): a and f", all.breaks(CORE), 1000 + 1 + 32);
      parted(all, "abcde|f");
      due("breaks(2): a and f, of five", all.breaks(CORE), 1000 + 1 + 32);
      parted(all, "abcdef");
      due("breaks(2): all as one", all.breaks(CORE), NONE);
    });
    test(12, "NONE: it is at rest. OUTSIDE: 0 to 2.", () -> {
      for (int rest = 0; rest < 3; rest++) due("breaks(" + rest + ") of one", calm(1).breaks(rest), NONE);
      for (int off : new int[] {-1, 3, MIN, MAX}) due("breaks(" + off + ")", calm(2).breaks(off), OUTSIDE);
    });
  }

  private static void spread(String head, int unions, int lands, List<String> rows) {
    if (head.length() == lands) {
      rows.add(head);
      return;
    }
    for (int u = 0; u <= unions; u++) spread(head + u, u == unions ? unions + 1 : unions, lands, rows);
  }

  private static void rests() {
    test(13, "ALL PARTINGS in order: as rows of UNIONS of LANDS 0, 1, ....", () -> {
      for (int n = 1; n <= 6; n++) {
        List<String> rows = new ArrayList<>();
        spread("", 0, n, rows);
        LandUnions x = calm(n);
        due("rests(0, -1, 0) of " + n, x.rests(STAY, -1, 0), rows.size());
        for (int i = 0; i < rows.size(); i++) {
          if (i % 80 == 0) x = calm(n);
          StringBuilder got = new StringBuilder();
          for (int l = 0; l < n; l++) got.append(x.rests(i % 3, i, l));
          due("rests(.., " + i + ", ..) of " + n, got.toString(), rows.get(i));
        }
      }
    });
    test(13, "NONE: there is no i-th.", () -> {
      for (int rest = 0; rest < 3; rest++) {
        LandUnions x = calm(6);
        due("rests, the last", x.rests(rest, 202, 5), 5);
        for (int i : new int[] {203, 204, 1000, MAX, -2, -3, -203, MIN}) due("rests(" + rest + ", " + i + ", 5)", x.rests(rest, i, 5), NONE);
        due("rests(" + rest + ", 1, 0) of one", calm(1).rests(rest, 1, 0), NONE);
        due("rests(" + rest + ", 0, 0) of one", calm(1).rests(rest, 0, 0), 0);
      }
    });
    test(13, "ALL PARTINGS at a REST: how many (i = -1); of the i-th the UNION of a LAND.", () -> {
      LandUnions x = oneLessForB();
      due("rests(0, -1, 0): apart alone", x.rests(STAY, -1, 0), 1);
      due("rests(0, 0, 1)", x.rests(STAY, 0, 1), 1);
      due("rests(0, 1, 1)", x.rests(STAY, 1, 1), NONE);
      LandUnions y = likeForB();
      due("rests(0, -1, 0): both", y.rests(STAY, -1, 0), 2);
      due("rests(1, -1, 0): as one alone", y.rests(JOIN, -1, 0), 1);
      due("rests(1, 0, 1)", y.rests(JOIN, 0, 1), 0);
      due("rests(1, 1, 1)", y.rests(JOIN, 1, 1), NONE);
      due("rests(2, -1, 0): both", y.rests(CORE, -1, 0), 2);
      parted(y, "ab");
      due("rests(0, 1, 1): whatever THE PARTING", y.rests(STAY, 1, 1), 1);
    });
    test(13, "UNKNOWN: the LAND (not looked at for i -1)", () -> {
      LandUnions x = calm(2);
      for (int land : new int[] {-1, 2, 6, 99, MIN, MAX}) {
        due("rests(0, -1, " + land + ")", x.rests(STAY, -1, land), 2);
        due("rests(3, -1, " + land + ")", x.rests(3, -1, land), OUTSIDE);
        due("rests(0, 0, " + land + ")", x.rests(STAY, 0, land), UNKNOWN);
        due("rests(0, 99, " + land + "): no i-th too", x.rests(STAY, 99, land), UNKNOWN);
        due("rests(0, -2, " + land + "): no i-th too", x.rests(STAY, -2, land), UNKNOWN);
        due("rests(3, 0, " + land + "): no REST too", x.rests(3, 0, land), UNKNOWN);
      }
    });
    test(13, "(not looked at for i -1); OUTSIDE; NONE", () -> {
      LandUnions x = calm(2);
      for (int rest : new int[] {-1, 3, MIN, MAX}) {
        for (int i : new int[] {-1, 0, 99, -2, MIN}) due("rests(" + rest + ", " + i + ", 0)", x.rests(rest, i, 0), OUTSIDE);
      }
    });
  }

  // ---- 4 joinings, what lands should do

  private static void go() {
    test(14, "again and again the first LAND, from a told one on, round", () -> {
      // a apart 900, b with c 400, c to ab: each is the first from itself on
      LandUnions x = with(outsideSeller(), 1, 0, "ab|c");
      due("go(0, 0)", x.go(0, 0), 2);
      due("row from a on", goRow(x, 0), "011");
      due("go(1, 0)", x.go(1, 0), 1);
      due("row from b on", goRow(x, 1), "011");
      due("go(2, 0)", x.go(2, 0), 1);
      due("row from c on", goRow(x, 2), "000");
      // only a has a reason: it is found behind the last LAND
      LandUnions y = world(16, 30, 0, 1, 32, 5, 0, 11, 32, 5, 0, 11);
      for (int from = 0; from < 3; from++) {
        due("go(" + from + ", 0)", y.go(from, 0), 1);
        due("row from " + from + " on", goRow(y, from), "001");
      }
    });
    test(14, "that has more GOOD by LEAVING, or in another UNION of which none has less GOOD then", () -> {
      due("go(1, 0): as much by LEAVING", with(likeForB(), 0, 0, "ab").go(1, 0), 0);
      due("go(1, 0): one more by LEAVING", with(oneLessForB(), 0, 0, "ab").go(1, 0), 1);
      due("go(0, 0): one more in another UNION", oneMoreForA().go(0, 0), 1);
      due("go(0, 0): b would have one less", oneLessForB().go(0, 0), 0);
      due("go(0, 0): b would have as much", likeForB().go(0, 0), 1);
    });
    test(14, "goes where it has most (to be apart first, then UNIONS by numbers, of like ones the first)", () -> {
      LandUnions tie = with(outsideSeller(), 1, 0, "ab|c");
      due("row: a has 900 apart and with c", goRow(tie, 0), "011");
      LandUnions like = world(16, 30, 0, 1, 32, 5, 0, 11, 32, 5, 0, 11);
      due("row: a has 121 with b and with c", goRow(like, 0), "001");
      // a has 96, with b 100, with c 121; b buys nothing
      LandUnions most = world(16, 30, 0, 5, 5, 6, 0, 11, 32, 5, 0, 11);
      due("row: a goes to c, not to the first", goRow(most, 0), "010");
      due("go(0, 0)", most.go(0, 0), 1);
    });
    test(14, "the next round begins with the LAND behind it", () -> {
      // c would have less with a, so b goes to a, for 1156; behind b comes c, and goes to them, for 196
      LandUnions x = with(world(30, 5, 1, 5, 40, 20, 1, 5, 20, 10, 2, 15), 1, 0, "a|bc");
      due("go(0, 0)", x.go(0, 0), 2);
      due("row", goRow(x, 0), "000");
      // c, the last, goes apart (336, not 312; a has 437 with it, not 447); behind it comes a, and goes to b (465, with c
      // 437, not 427); then c goes to them
      LandUnions y = with(world(40, 20, 1, 5, 40, 30, 0, 10, 40, 30, 0, 5), 2, 0, "a|bc");
      due("go(2, 0)", y.go(2, 0), 3);
      due("row", goRow(y, 2), "000");
    });
    test(14, "a LAND LEAVES: it is apart then, all others as they were.", () -> {
      // d has 900 with them and 27 x 27 + 12 x 27 apart; then none has more elsewhere (d would have less with a)
      LandUnions x = with(world(60, 10, 5, 12, 55, 20, 4, 9, 70, 25, 3, 6, 45, 12, 6, 15), 0, 0, "abcd");
      for (int from = 0; from < 4; from++) {
        due("go(" + from + ", 0)", x.go(from, 0), 1);
        due("row from " + from + " on", goRow(x, from), "0001");
      }
    });
    test(14, "Till none goes (a REST)", () -> {
      for (int n = 1; n <= 6; n++) {
        for (int l = 0; l < n; l++) {
          due("go(" + l + ", 0) of " + n, calm(n).go(l, 0), 0);
          due("go(" + l + ", 1) of " + n, calm(n).go(l, 1), 0);
        }
      }
      due("row", goRow(with(calm(6), 0, 0, "af|be|cd"), 4), "012210");
    });
    test(14, "or a PARTING with the LAND that is next comes again (a RING)", () -> {
      int[] goings = {4, 4, 4};
      String[] ends = {"001", "011", "010"};
      for (int l = 0; l < 3; l++) {
        due("go(" + l + ", 0)", ring().go(l, 0), goings[l]);
        due("go(" + l + ", 1)", ring().go(l, 1), 3);
        due("row from " + l + " on", goRow(ring(), l), ends[l]);
      }
      LandUnions in = with(ring(), 0, 0, "ab|c");
      due("go(1, 0) from within: ab|c with b next comes again", in.go(1, 0), 3);
      due("go(1, 1)", in.go(1, 1), 3);
      due("row", goRow(in, 1), "001");
      due("go(0, 0): ab|c comes again, but with b next, not a", in.go(0, 0), 4);
      due("go(0, 1)", in.go(0, 1), 3);
      due("row", goRow(in, 0), "011");
    });
    test(14, "500 goings at most.", () -> {
      // the longest ways that long seeking found (the second program of LandUnionsOracle goes them too): no test comes
      // near the 500th going
      LandUnions x = world(39, 1, 7, 38, 72, 80, 17, 11, 57, 14, 14, 36, 55, 66, 11, 46, 91, 65, 4, 1, 99, 17, 16, 3);
      with(x, 0, 1, "ab|c|de|f");
      due("go(3, 0)", x.go(3, 0), 67);
      due("go(3, 1)", x.go(3, 1), 23);
      LandUnions y = world(55, 13, 16, 36, 47, 81, 14, 51, 98, 25, 18, 2, 22, 30, 15, 31, 79, 23, 10, 13, 96, 1, 12, 59);
      y.set(SHARES, 2);
      due("go(2, 0)", y.go(2, 0), 34);
      due("go(2, 1)", y.go(2, 1), 0);
    });
    test(14, "10 to 15 the UNION of a LAND then (NONE: no such). UNKNOWN; OUTSIDE.", () -> {
      for (int n = 1; n <= 6; n++) {
        LandUnions x = calm(n);
        for (int l = 0; l < 6; l++) due("go(0, 1" + l + ") of " + n, x.go(0, 10 + l), l < n ? l : NONE);
      }
      LandUnions x = calm(2);
      for (int what : new int[] {-1, 2, 3, 9, 16, 17, MIN, MAX}) due("go(1, " + what + ")", x.go(1, what), OUTSIDE);
      for (int land : new int[] {-1, 2, 6, MIN, MAX}) for (int what : new int[] {0, 1, 10, 15, 2, 16}) due("go(" + land + ", " + what + ")", x.go(land, what), UNKNOWN);
    });
  }

  private static void whole() {
    test(15, "NEEDS no more than SPARE", () -> {
      // as one b buys its 24 of a, both sell at 11 with a GAIN of 1: b has 48 less, a 48 more
      LandUnions like = world(40, 10, 1, 8, 35, 10, 1, 8);
      due("whole(0)", like.whole(0), 48);
      due("whole(1)", like.whole(1), 48);
      due("whole(2): as much", like.whole(2), 1);
      // as one b buys 8 of a, which has no GAIN: 64, apart 5 of itself: 25 + 40
      LandUnions less = world(50, 24, 0, 3, 32, 23, 4, 5);
      due("whole(0)", less.whole(0), 1);
      due("whole(1)", less.whole(1), 0);
      due("whole(2): one more", less.whole(2), 0);
      due("whole(2): one less", oneMoreForA().whole(2), 1);
    });
    test(15, "NEEDS: of LANDS with less GOOD than all apart how much they lack, together", () -> {
      LandUnions x = world(40, 10, 1, 8, 35, 10, 1, 8, 35, 10, 1, 8);
      due("whole(0): b and c", x.whole(0), 96);
      due("whole(1)", x.whole(1), 96);
      for (String parting : new String[] {"abc", "ab|c", "ac|b", "a|bc", "a|b|c"}) {
        parted(x, parting);
        due("whole(0): than all apart, whatever THE PARTING", x.whole(0), 96);
        due("whole(1): than all apart, whatever THE PARTING", x.whole(1), 96);
      }
      due("whole(0) of one", world(40, 10, 1, 8).whole(0), 0);
    });
    test(15, "SPARE: what the others have more, together", () -> {
      due("whole(1) of one", world(40, 10, 1, 8).whole(1), 0);
      due("whole(2) of one", world(40, 10, 1, 8).whole(2), 1);
      due("whole(1): b has as much", likeForB().whole(1), 8);
      due("whole(0): b has as much", likeForB().whole(0), 0);
    });
    test(15, "`int whole(int what)`: WHOLE: NEEDS (what = 0), SPARE (1)", () -> {
      for (int off : new int[] {-1, 3, MIN, MAX}) due("whole(" + off + ")", calm(2).whole(off), OUTSIDE);
    });
  }

  private static void rules() {
    test(16, "RULES under which THE PARTING is at STAY, by SHARES 0, 1, 2, as bits.", () -> {
      due("rules() of one", calm(1).rules(), 7);
      due("rules(): as much by LEAVING", with(likeForB(), 0, 0, "ab").rules(), 7);
      due("rules(): one more by LEAVING", with(oneLessForB(), 0, 0, "ab").rules(), 0);
      // a and c of ac|b over a wall of 6 (a apart 345, c 495): own 325; alike 355 and 510; by WISHES 339
      LandUnions alike = with(world(25, 37, 1, 4, 30, 5, 1, 3, 30, 34, 1, 9), 2, 0, "ac|b");
      // over a wall of 2 (a apart 468, c 49): own 480 and 45; alike 450; by WISHES 468, with the one left over, and 57
      LandUnions byWishes = with(world(30, 40, 3, 4, 20, 5, 3, 8, 15, 20, 2, 0), 2, 0, "ac|b");
      // over a wall of 7, as apart: a has less by 1 and 2
      LandUnions own = with(world(35, 50, 0, 7, 25, 50, 0, 7, 15, 1, 4, 3), 0, 0, "ab|c");
      for (int shares = 0; shares < 3; shares++) {
        alike.set(SHARES, shares);
        due("rules() with SHARES " + shares, alike.rules(), 2);
        due("breaks(0) with SHARES " + shares, alike.breaks(STAY), shares == 1 ? NONE : 0);
        byWishes.set(SHARES, shares);
        due("rules() with SHARES " + shares, byWishes.rules(), 4);
        due("breaks(0) with SHARES " + shares, byWishes.breaks(STAY), shares == 2 ? NONE : shares == 1 ? 0 : 2);
        own.set(SHARES, shares);
        due("rules() with SHARES " + shares, own.rules(), 1);
        due("told(3)", own.told(3), shares);
      }
    });
  }

  private static void propose() {
    test(17, "a set with it (not its UNION that is) that would all have more GOOD as one UNION", () -> {
      due("propose(0, 0): b has as much", likeForB().propose(0, 0), NONE);
      due("propose(0, 0): b has as much, a one more", oneMoreForA().propose(0, 0), NONE);
      LandUnions least = world(33, 30, 4, 1, 32, 22, 1, 2);
      due("propose(0, 0): one and two more", least.propose(0, 0), 3);
      due("propose(0, 1)", least.propose(0, 1), 100);
      due("propose(1, 0)", least.propose(1, 0), 3);
      parted(least, "ab");
      for (int l = 0; l < 2; l++) for (int w = 0; w < 2; w++) due("propose(" + l + ", " + w + "): its UNION that is", least.propose(l, w), NONE);
      LandUnions alone = with(oneLessForB(), 0, 0, "ab");
      due("propose(1, 0): itself alone", alone.propose(1, 0), 2);
      due("propose(1, 1)", alone.propose(1, 1), 5);
      due("propose(0, 0): a set without it is none of its", alone.propose(0, 0), NONE);
    });
    test(17, "those left behind staying together", () -> {
      LandUnions x = leftBehind();
      int[] sets = {9, NONE, NONE, 9}, goods = {576 + 2 * 96, NONE, NONE, 576};
      for (int l = 0; l < 4; l++) {
        due("propose(" + l + ", 0)", x.propose(l, 0), sets[l]);
        due("propose(" + l + ", 1)", x.propose(l, 1), goods[l]);
      }
    });
    test(17, "that with which its GOOD is most; of several the least as bits", () -> {
      LandUnions three = world(30, 10, 1, 4, 30, 20, 5, 6, 30, 20, 5, 6);
      due("propose(0, 0): 475 with both, 463 with one", three.propose(0, 0), 7);
      due("propose(0, 1)", three.propose(0, 1), 475);
      due("propose(1, 0): 361 with a, and with both", three.propose(1, 0), 3);
      due("propose(2, 0): 361 with a, and with both", three.propose(2, 0), 5);
      LandUnions y = with(outsideSeller(), 1, 0, "ab|c");
      due("propose(0, 0): 900 alone, with c and with both", y.propose(0, 0), 1);
      due("propose(1, 0): 400 with c and with both", y.propose(1, 0), 6);
    });
    test(17, "its GOOD then (1); NONE. UNKNOWN; OUTSIDE.", () -> {
      LandUnions x = calm(2);
      for (int what = 0; what < 2; what++) due("propose(1, " + what + ")", x.propose(1, what), NONE);
      due("propose(0, 0) of one", calm(1).propose(0, 0), NONE);
      for (int what : new int[] {-1, 2, MIN, MAX}) due("propose(1, " + what + ")", x.propose(1, what), OUTSIDE);
      for (int land : new int[] {-1, 2, 6, MIN, MAX}) for (int what : new int[] {0, 1, 2, -1}) due("propose(" + land + ", " + what + ")", x.propose(land, what), UNKNOWN);
    });
  }

  private static void enter() {
    test(18, "what its GOOD becomes more (may be below 0)", () -> {
      due("enter(1, 0, 0): as much", likeForB().enter(1, 0, 0), 0);
      due("enter(1, 0, 0): one less", oneLessForB().enter(1, 0, 0), -1);
      due("enter(0, 1, 0): one more", oneMoreForA().enter(0, 1, 0), 1);
      due("enter(0, 1, 0) by the greatest wall", with(outsideSeller(), 1, 0, "a|b|c").enter(0, 1, 0), 800 - 900);
      // d comes to abc, all as one; a goes to d, and c with b keeps the wall of 0
      due("enter(3, 0, 0)", leftBehind().enter(3, 0, 0), 576 - 495);
      due("enter(0, 1, 0): those it leaves stay together", leftBehind().enter(0, 1, 0), 768 - 750);
    });
    test(18, "what those of the UNION together have more", () -> {
      due("enter(0, 1, 1): as much", likeForB().enter(0, 1, 1), 0);
      due("enter(0, 1, 1): one less", oneLessForB().enter(0, 1, 1), -1);
      due("enter(1, 0, 1): a four more", oneLessForB().enter(1, 0, 1), 4);
      due("enter(2, 0, 1): of two", with(outsideSeller(), 1, 0, "ab|c").enter(2, 0, 1), 100 + 100);
      due("enter(3, 0, 1): of three", leftBehind().enter(3, 0, 1), 18);
      due("enter(0, 1, 1): c sells 10 more to a", with(outsideSeller(), 1, 0, "ab|c").enter(0, 1, 1), 8 * 10);
      // b, left with its TOLL of 10, buys 10 less of c and has 100 less, which is not told
      due("enter(0, 1, 1): not of those it leaves", with(outsideSeller(), 0, 0, "ab|c").enter(0, 1, 1), -8 * 10);
    });
    test(18, "UNKNOWN, OUTSIDE: no such UNION, or its own; what (LOST less 1, 2).", () -> {
      LandUnions x = with(calm(3), 0, 0, "ab|c");
      for (int land : new int[] {-1, 3, 6, MIN, MAX}) {
        due("enter(" + land + ", 1, 0)", x.enter(land, 1, 0), -1000000001);
        due("enter(" + land + ", 9, 0): no UNION too", x.enter(land, 9, 0), -1000000001);
        due("enter(" + land + ", 1, 9): what too", x.enter(land, 1, 9), -1000000001);
      }
      for (int union : new int[] {-1, 2, 3, 6, MIN, MAX, 0}) due("enter(0, " + union + ", 0)", x.enter(0, union, 0), -1000000002);
      for (int what : new int[] {-1, 2, MIN, MAX}) due("enter(0, 1, " + what + ")", x.enter(0, 1, what), -1000000002);
      due("enter(2, 1, 0): its own, the last", x.enter(2, 1, 0), -1000000002);
      due("enter(2, 0, 0)", x.enter(2, 0, 0), 0);
      due("enter(0, 0, 0) of one", calm(1).enter(0, 0, 0), -1000000002);
    });
  }

  private static void holds() {
    test(19, "HOLDS: the least COST OF LEAVING (taken from who leaves) by which THE PARTING is at STAY.", () -> {
      due("holds() apart", oneLessForB().holds(), 0);
      due("holds(): all have less by LEAVING, never below 0", with(oneMoreForA(), 0, 0, "ab").holds(), 0);
      due("holds(): one and two less", with(world(33, 30, 4, 1, 32, 22, 1, 2), 0, 0, "ab").holds(), 0);
      due("holds(): as much by LEAVING", with(likeForB(), 0, 0, "ab").holds(), 0);
      due("holds(): one more by LEAVING", with(oneLessForB(), 0, 0, "ab").holds(), 1);
      due("holds(): a would have 900, not 800", with(outsideSeller(), 1, 0, "ab|c").holds(), 100);
      // by LEAVING one has 1 + 4, not 4, and one 4 + 8, not 9
      due("holds(): one and three more", with(world(15, 8, 1, 2, 11, 8, 2, 10, 12, 8, 2, 10), 0, 0, "abc").holds(), 3);
      due("holds(): three and one more", with(world(15, 8, 1, 2, 12, 8, 2, 10, 11, 8, 2, 10), 0, 0, "abc").holds(), 3);
      due("holds() of one", calm(1).holds(), 0);
    });
  }

  private static void hurt() {
    test(20, "HURT: LANDS outside a UNION with less GOOD in THE PARTING than if the LANDS of that UNION were all apart.", () -> {
      LandUnions x = with(outsideSeller(), 1, 0, "ab|c");
      due("hurt(0): c has 420, not 500; a has less too, but is not outside", x.hurt(0), 4);
      due("hurt(1): of a UNION of one none", x.hurt(1), 0);
      x.set(WALLS, 0);
      due("hurt(0): c has more", x.hurt(0), 0);
      x.change(0, TOLL, 10);
      due("hurt(0): c has as much", x.hurt(0), 0);
      x.change(0, TOLL, 9);
      x.set(WALLS, 1);
      due("hurt(0): a buys one less of c", x.hurt(0), 4);
      due("hurt(0) of all in one: none is outside", with(outsideSeller(), 1, 0, "abc").hurt(0), 0);
      LandUnions far = with(world(15, 1, 4, 3, 9, 99, 0, 0, 9, 99, 0, 0, 9, 99, 0, 0, 35, 50, 0, 0, 25, 50, 0, 10), 1, 0, "a|b|c|d|ef");
      due("hurt(4): the last UNION", far.hurt(4), 1);
      LandUnions last = with(world(35, 50, 0, 0, 25, 50, 0, 10, 9, 99, 0, 0, 9, 99, 0, 0, 9, 99, 0, 0, 15, 1, 4, 3), 1, 0, "ab|c|d|e|f");
      due("hurt(0): the last LAND", last.hurt(0), 32);
    });
    test(20, "HURT by a UNION, as bits. OUTSIDE: no such UNION.", () -> {
      LandUnions x = with(calm(3), 0, 0, "ab|c");
      for (int off : new int[] {-1, 2, 3, 6, 32, MIN, MAX}) due("hurt(" + off + ")", x.hurt(off), OUTSIDE);
      due("hurt(5) of six", calm(6).hurt(5), 0);
      due("hurt(6) of six", calm(6).hurt(6), OUTSIDE);
    });
  }

  private static void edge() {
    test(21, "the nearest other COST (1 to 99; of like ones the lesser)", () -> {
      // b has 53 x 53 as it buys of a at 7, and would have 53 x 57; 2 less or more of either COST turns it
      LandUnions twins = with(world(70, 5, 2, 7, 60, 5, 2, 4), 0, 0, "ab");
      due("edge(0): 3 and 7", twins.edge(0), 3);
      due("edge(1): 3 and 7", twins.edge(1), 3);
      due("told(10): COST is as it was", twins.told(10), 5);
      // c leaves if it costs 1: 64 + 48, not 99; by 2 it has 49 + 42
      LandUnions down = with(world(6, 2, 0, 5, 30, 6, 3, 1, 12, 23, 3, 8), 0, 0, "a|bc");
      due("edge(2): from 23 to 1", down.edge(2), 1);
      down.change(2, COST, 2);
      due("edge(2): from 2 to 1", down.edge(2), 1);
      down.change(2, COST, 99);
      due("edge(2): from 99 to 1", down.edge(2), 1);
      down.change(2, COST, 1);
      due("edge(2): from 1 to 2", down.edge(2), 2);
      // by a COST of 0 b would be the cheaper and a would leave; 1 is the least
      due("edge(1): not 0", with(world(27, 1, 2, 1, 2, 8, 2, 9), 0, 1, "ab").edge(1), NONE);
      // a leaves to buy of c without a toll, be it one alone, till c costs as much as a wishes
      LandUnions far = with(world(99, 99, 0, 0, 1, 99, 0, 10, 1, 1, 0, 0), 1, 0, "ab|c");
      due("edge(2): from 1 to 99", far.edge(2), 99);
      far.change(2, COST, 99);
      due("edge(2): from 99 to 98", far.edge(2), 98);
    });
    test(21, "by which THE PARTING is at STAY just if it is not now", () -> {
      // over a wall of 7, as apart, a loses by SHARES 1 and 2, till c costs so much that neither buys
      int[] costs = {NONE, 24, 24};
      for (int shares = 0; shares < 3; shares++) {
        LandUnions x = with(world(35, 50, 0, 7, 25, 50, 0, 7, 15, 1, 4, 3), 0, shares, "ab|c");
        due("edge(2) by SHARES " + shares, x.edge(2), costs[shares]);
        due("rules()", x.rules(), 1);
        due("edge(2) again by SHARES " + shares, x.edge(2), costs[shares]);
      }
      // over the wall by WALLS 1 a has less than apart, over that by 0 as much
      for (int walls = 0; walls < 2; walls++) {
        due("edge(2) by WALLS " + walls, with(world(35, 50, 0, 7, 25, 50, 0, 9, 15, 1, 4, 3), walls, 0, "ab|c").edge(2), walls == 0 ? NONE : 24);
      }
      // b would have 5, not 4, by LEAVING; COST 9 of b: apart as much as its WISH, 0
      LandUnions x = with(oneLessForB(), 0, 0, "ab");
      due("breaks(0)", x.breaks(STAY), 1);
      due("edge(1)", x.edge(1), 9);
      due("change(1, 1, 9)", x.change(1, COST, 9), 8);
      due("breaks(0)", x.breaks(STAY), NONE);
      due("edge(1): back", x.edge(1), 8);
    });
    test(21, "`int edge(int land)`: EDGE; NONE. UNKNOWN.", () -> {
      due("edge(0) of one", calm(1).edge(0), NONE);
      due("edge(1) apart: none can leave", oneLessForB().edge(1), NONE);
      for (int off : new int[] {-1, 2, 6, MIN, MAX}) due("edge(" + off + ")", calm(2).edge(off), UNKNOWN);
      due("edge(5) of six", calm(6).edge(5), NONE);
    });
  }

  private static void told() {
    test(22, "0 LANDS, 1 signs, 2 WALLS, 3 SHARES, 4 UNIONS, 10 to 15 COSTS (NONE).", () -> {
      int[] want = {6, 20, 2, 2, 3};
      for (int what = 0; what < 5; what++) due("told(" + what + ")", crowded().told(what), want[what]);
      for (int n = 0; n <= 6; n++) {
        LandUnions x = calm(n);
        due("told(0) of " + n, x.told(0), n);
        due("told(4) of " + n, x.told(4), n);
        for (int l = 0; l < 6; l++) due("told(1" + l + ") of " + n, x.told(10 + l), l < n ? 10 : NONE);
      }
    });
    test(22, "10 to 15 COSTS (NONE). OUTSIDE.", () -> {
      for (int off : new int[] {-1, 5, 6, 9, 16, 17, MIN, MAX}) due("told(" + off + ")", calm(6).told(off), OUTSIDE);
    });
  }

  static int wrongAnswers() {
    refusals();
    questions();
    changes();
    manyCalls();
    constants();
    newObject();
    land();
    change();
    set();
    say();
    wipe();
    fault();
    part();
    union();
    of();
    all();
    breaks();
    rests();
    go();
    whole();
    rules();
    propose();
    enter();
    holds();
    hurt();
    edge();
    told();
    return wrong;
  }

  private static void lookInto(String document) throws java.io.IOException {
    String text = Files.readString(Path.of(document)).replaceAll("\\s+", " ");
    for (String q : quoted) {
      if (!text.contains(q)) {
        wrong++;
        System.out.println("not in the document: " + q);
      }
    }
  }

  public static void main(String[] args) throws java.io.IOException {
    wrongAnswers();
    if (args.length > 0) lookInto(args[0]);
    System.out.println(wrong == 0 ? "all " + dues + " answers of " + quoted.size() + " tests are as due" : wrong + " answers are not as due");
    if (wrong != 0) System.exit(1);
  }
}
