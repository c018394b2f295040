/** For each promise calls whose answers were reckoned by hand from the document, but for the ring. */
public final class LandUnionsPromises {
  private static final int UNKNOWN = -1, OUTSIDE = -2, FULL = -4, NO = -5, NONE = -6, LOST = -1000000000;
  private static final int MIN = Integer.MIN_VALUE, MAX = Integer.MAX_VALUE;

  private static int wrong = 0;
  private static int promise = 0;

  private static void due(String call, int got, int want) {
    if (got != want) {
      wrong++;
      System.out.println("promise " + promise + ": " + call + " answered " + got + ", due is " + want);
    }
  }

  private static void text(LandUnions x, String signs) {
    for (char c : signs.toCharArray()) x.say(c);
  }

  private static int parted(LandUnions x, String signs) {
    x.wipe();
    text(x, signs);
    return x.part();
  }

  private static String row(LandUnions x) {
    StringBuilder s = new StringBuilder();
    for (int l = 0; l < x.told(0); l++) s.append(x.union(l));
    return s.toString();
  }

  private static LandUnions world(int... numbers) {
    LandUnions x = new LandUnions();
    for (int i = 0; i + 3 < numbers.length; i += 4) x.land(numbers[i], numbers[i + 1], numbers[i + 2], numbers[i + 3]);
    return x;
  }

  /** Land b buys of a over its toll; a takes a gain of 1 and is glad of more sales. */
  private static LandUnions pair() { return world(30, 10, 1, 4, 30, 20, 5, 6); }

  /** As pair, with a second b. */
  private static LandUnions three() { return world(30, 10, 1, 4, 30, 20, 5, 6, 30, 20, 5, 6); }

  /** a and b buy of c, which costs 5 in all; a has no toll, b has 10. */
  private static LandUnions outsideSeller() { return world(35, 50, 0, 0, 25, 50, 0, 10, 15, 1, 4, 3); }

  private static void newObject() {
    promise = 1;
    LandUnions x = new LandUnions();
    for (int what = 0; what <= 4; what++) due("told(" + what + ")", x.told(what), 0);
    due("told(10)", x.told(10), NONE);
    due("wipe()", x.wipe(), 0);
    due("union(0)", x.union(0), UNKNOWN);
    due("all(0)", x.all(0), 0);
    due("all(1)", x.all(1), 0);
    due("all(2)", x.all(2), 1);
    for (int rest = 0; rest <= 2; rest++) {
      due("breaks(" + rest + ")", x.breaks(rest), NONE);
      due("rests(" + rest + ", -1, 7)", x.rests(rest, -1, 7), 1);
      due("rests(" + rest + ", 0, 0)", x.rests(rest, 0, 0), UNKNOWN);
    }
    LandUnions y = new LandUnions();
    x.land(1, 1, 0, 0);
    x.set(0, 2);
    x.say(97);
    due("told(0) of another object", y.told(0) + y.told(1) + y.told(2), 0);
    due("STATE", LandUnions.STATE, -3);
  }

  private static void land() {
    promise = 2;
    LandUnions x = new LandUnions();
    int[][] off = {{0, 1, 0, 0}, {100, 1, 0, 0}, {1, 0, 0, 0}, {1, 100, 0, 0}, {1, 1, -1, 0}, {1, 1, 21, 0}, {1, 1, 0, -1}, {1, 1, 0, 61}, {MIN, 1, 0, 0}, {1, MAX, 0, 0}, {1, 1, MIN, 0}, {1, 1, 0, MAX}};
    for (int[] o : off) due("land, a number off", x.land(o[0], o[1], o[2], o[3]), OUTSIDE);
    due("told(0)", x.told(0), 0);
    due("land(1, 1, 0, 0)", x.land(1, 1, 0, 0), 0);
    due("land(99, 99, 20, 60)", x.land(99, 99, 20, 60), 1);
    for (int n = 2; n < 6; n++) due("land", x.land(50, 50, 5, 5), n);
    due("land, a seventh", x.land(50, 50, 5, 5), FULL);
    due("land, a seventh with a number off", x.land(0, 50, 5, 5), OUTSIDE);
    due("told(0)", x.told(0), 6);
    due("told(4)", x.told(4), 6);
  }

  private static void change() {
    promise = 3;
    LandUnions x = world(30, 10, 1, 4);
    int[] was = {30, 10, 1, 4}, least = {1, 1, 0, 0}, most = {99, 99, 20, 60};
    for (int what = 0; what < 4; what++) {
      due("change to the least", x.change(0, what, least[what]), was[what]);
      due("change to the most", x.change(0, what, most[what]), least[what]);
      due("change below the least", x.change(0, what, least[what] - 1), OUTSIDE);
      due("change above the most", x.change(0, what, most[what] + 1), OUTSIDE);
      due("change back", x.change(0, what, was[what]), most[what]);
    }
    due("change(0, 4, 1)", x.change(0, 4, 1), OUTSIDE);
    due("change(0, -1, 1)", x.change(0, -1, 1), OUTSIDE);
    due("change(1, 9, 999)", x.change(1, 9, 999), UNKNOWN);
    due("change(-1, 0, 1)", x.change(-1, 0, 1), UNKNOWN);
    due("of(0, 0)", x.of(0, 0), 19 * 19 + 2 * 19);
    x.change(0, 0, 40);
    due("of(0, 0), WISH changed", x.of(0, 0), 29 * 29 + 2 * 29);
    x.change(0, 1, 20);
    due("of(0, 0), COST changed", x.of(0, 0), 19 * 19 + 2 * 19);
    x.change(0, 2, 2);
    due("of(0, 0), GAIN changed", x.of(0, 0), 18 * 18 + 4 * 18);
    x.change(0, 3, 9);
    due("of(0, 4), TOLL changed", x.of(0, 4), 9);
  }

  private static void set() {
    promise = 4;
    LandUnions x = new LandUnions();
    due("set(0, 2)", x.set(0, 2), 0);
    due("set(0, 1)", x.set(0, 1), 2);
    due("set(1, 1)", x.set(1, 1), 0);
    due("set(1, 2)", x.set(1, 2), 1);
    due("set(0, 3)", x.set(0, 3), OUTSIDE);
    due("set(1, -1)", x.set(1, -1), OUTSIDE);
    due("set(2, 0)", x.set(2, 0), OUTSIDE);
    due("set(-1, 0)", x.set(-1, 0), OUTSIDE);
    due("told(2)", x.told(2), 1);
    due("told(3)", x.told(3), 2);
  }

  private static void say() {
    promise = 5;
    LandUnions x = new LandUnions();
    due("say(32)", x.say(32), OUTSIDE);
    due("say(127)", x.say(127), OUTSIDE);
    due("say(MIN)", x.say(MIN), OUTSIDE);
    due("say(33)", x.say(33), 1);
    due("say(126)", x.say(126), 2);
    for (int n = 3; n <= 20; n++) due("say(97)", x.say(97), n);
    due("say, a 21st", x.say(97), FULL);
    due("say, a 21st off", x.say(32), OUTSIDE);
    due("told(1)", x.told(1), 20);
  }

  private static void wipe() {
    promise = 6;
    LandUnions x = pair();
    text(x, "b|a");
    due("wipe()", x.wipe(), 3);
    due("wipe() again", x.wipe(), 0);
    due("told(1)", x.told(1), 0);
    due("fault()", x.fault(), 0);
    text(x, "ab");
    due("fault() of new signs", x.fault(), NONE);
  }

  private static void fault() {
    promise = 7;
    LandUnions none = new LandUnions();
    due("fault() without lands", none.fault(), 0);
    text(none, "ab");
    due("fault() without lands, with signs", none.fault(), 0);
    String[] texts = {"", "|", "a", "a|", "a||", "a|b", "a|b|", "a|b|c", "abc", "cab", "c|ab", "abc|", "abca", "aa", "a|a", "d", "abd", "A", "a!", "|abc", "ab|c|", "a|b|c|a", "`", "~", "ab|||c"};
    int[] faults = {0, 0, 1, 2, 2, 3, 4, NONE, NONE, NONE, NONE, 3, 3, 1, 2, 0, 2, 0, 1, 0, 4, 5, 0, 0, 3};
    for (int i = 0; i < texts.length; i++) {
      LandUnions x = three();
      text(x, texts[i]);
      due("fault() of " + texts[i], x.fault(), faults[i]);
      due("told(1) of " + texts[i], x.told(1), texts[i].length());
    }
    LandUnions x = pair();
    text(x, "a|b");
    due("fault()", x.fault(), NONE);
    x.land(1, 1, 0, 0);
    due("fault() with a land more", x.fault(), 3);
    text(x, "c");
    due("fault() with its letter", x.fault(), NONE);
  }

  private static void part() {
    promise = 8;
    LandUnions x = three();
    due("part() of nothing", x.part(), NO);
    text(x, "ab");
    due("part() of too little", x.part(), NO);
    due("told(1)", x.told(1), 2);
    due("told(4)", x.told(4), 3);
    text(x, "|c");
    due("part()", x.part(), 2);
    due("told(1)", x.told(1), 0);
    due("part() again", x.part(), NO);
    due("told(4)", x.told(4), 2);
    LandUnions six = world(9, 9, 0, 0, 9, 9, 0, 0, 9, 9, 0, 0, 9, 9, 0, 0, 9, 9, 0, 0, 9, 9, 0, 0);
    due("part() of f|e|d|c|b|a", parted(six, "f|e|d|c|b|a"), 6);
    due("row of f|e|d|c|b|a", row(six).equals("012345") ? 1 : 0, 1);
    due("part() of fb|edc|a", parted(six, "fb|edc|a"), 3);
    due("row of fb|edc|a", row(six).equals("012221") ? 1 : 0, 1);
    due("part() of fedcba", parted(six, "fedcba"), 1);
    due("row of fedcba", row(six).equals("000000") ? 1 : 0, 1);
    due("part() without lands", new LandUnions().part(), NO);
  }

  private static void union() {
    promise = 9;
    LandUnions x = pair();
    due("union(1), apart at first", x.union(1), 1);
    parted(x, "ba");
    due("union(1)", x.union(1), 0);
    x.land(9, 9, 0, 0);
    due("union(2), a new land", x.union(2), 1);
    parted(x, "c|ab");
    due("union(2)", x.union(2), 1);
    parted(x, "bc|a");
    due("union(1)", x.union(1), 1);
    due("union(2)", x.union(2), 1);
    due("union(3)", x.union(3), UNKNOWN);
    due("union(-1)", x.union(-1), UNKNOWN);
    due("union(MAX)", x.union(MAX), UNKNOWN);
  }

  private static void of() {
    promise = 10;
    LandUnions x = pair();
    int[][] apart = {{361 + 2 * (19 + 13), 11, 19, 0, 4, 0}, {169 + 2 * 78, 17, 13, 0, 6, 78}};
    int[][] one = {{361 + 2 * 38, 11, 19, 0, 4, 0}, {361, 11, 19, 0, 4, 0}};
    for (int l = 0; l < 2; l++) for (int w = 0; w < 6; w++) due("of(" + l + ", " + w + ") apart", x.of(l, w), apart[l][w]);
    parted(x, "ab");
    for (int l = 0; l < 2; l++) for (int w = 0; w < 6; w++) due("of(" + l + ", " + w + ") as one", x.of(l, w), one[l][w]);
    due("of(0, 6)", x.of(0, 6), OUTSIDE);
    due("of(0, -1)", x.of(0, -1), OUTSIDE);
    due("of(2, 6)", x.of(2, 6), UNKNOWN);
    due("of(-1, 0)", x.of(-1, 0), UNKNOWN);

    LandUnions like = world(30, 10, 0, 5, 30, 15, 0, 5, 10, 20, 0, 60);
    due("of(1, 3): of like ones the least number", like.of(1, 3), 0);
    due("of(1, 5)", like.of(1, 5), 5 * 15);
    due("of(2, 1): a price at the wish or above", like.of(2, 1), 20);
    due("of(2, 2)", like.of(2, 2), 0);
    due("of(2, 3)", like.of(2, 3), NONE);
    due("of(2, 0)", like.of(2, 0), 0);
    like.change(2, 0, 20);
    due("of(2, 3): the wish is the price", like.of(2, 3), NONE);
    like.change(2, 0, 21);
    due("of(2, 3): one more", like.of(2, 3), 2);

    LandUnions y = world(36, 50, 0, 2, 25, 50, 0, 5, 15, 1, 4, 3, 22, 50, 0, 7);
    parted(y, "abd|c");
    int[] walls = {2, 7, 4};
    for (int w = 0; w < 3; w++) {
      y.set(0, w);
      due("of(3, 4) by WALLS " + w, y.of(3, 4), walls[w]);
      due("of(2, 4) by WALLS " + w, y.of(2, 4), 3);
    }
    int[][] parts = {{108, 64, 52}, {75, 75, 74}, {98, 67, 59}};
    for (int s = 0; s < 3; s++) {
      y.set(1, s);
      for (int k = 0; k < 3; k++) due("of(" + k + ", 5) by SHARES " + s, y.of(k == 2 ? 3 : k, 5), parts[s][k]);
      due("of(2, 5) by SHARES " + s, y.of(2, 5), 0);
      due("of(0, 0) by SHARES " + s, y.of(0, 0), 27 * 27 + 2 * parts[s][0]);
    }
    due("of(2, 0)", y.of(2, 0), 100 + 8 * (10 + 27 + 16 + 13));
  }

  private static void all() {
    promise = 11;
    LandUnions x = pair();
    due("all(0)", x.all(0), 425 + 325);
    due("all(1)", x.all(1), 437 + 361);
    parted(x, "ab");
    due("all(0)", x.all(0), 437 + 361);
    due("all(3)", x.all(3), OUTSIDE);
    due("all(-1)", x.all(-1), OUTSIDE);
    LandUnions y = new LandUnions();
    int[] howMany = {1, 1, 2, 5, 15, 52, 203};
    for (int n = 0; n <= 6; n++) {
      due("all(2) of " + n, y.all(2), howMany[n]);
      y.land(50, 20, 2, 9);
    }
    due("told(4): all(1) leaves THE PARTING", x.told(4), 1);
  }

  private static void breaks() {
    promise = 12;
    LandUnions x = three();
    due("breaks(0)", x.breaks(0), NONE);
    due("breaks(1)", x.breaks(1), 101);
    due("breaks(2)", x.breaks(2), 1003);
    parted(x, "ab|c");
    due("breaks(1)", x.breaks(1), 120);
    due("breaks(2)", x.breaks(2), NONE);
    parted(x, "abc");
    for (int r = 0; r < 3; r++) due("breaks(" + r + ") of all in one", x.breaks(r), NONE);
    due("breaks(3)", x.breaks(3), OUTSIDE);
    due("breaks(-1)", x.breaks(-1), OUTSIDE);

    LandUnions y = outsideSeller();
    y.set(0, 1);
    parted(y, "ab|c");
    due("breaks(0)", y.breaks(0), 0);
    due("breaks(1): STAY first", y.breaks(1), 0);
    due("breaks(2)", y.breaks(2), 1001);
    y.set(0, 0);
    due("breaks(0) by another rule", y.breaks(0), NONE);

    LandUnions glad = world(30, 10, 0, 4, 30, 20, 5, 6);
    due("breaks(1): a has no more, b has", glad.breaks(1), 110);
    due("breaks(2): a has no more", glad.breaks(2), NONE);

    // by the mean wall of 5 b would have more with a (375, not 300), but a less: it keeps b out;
    // c, of a gain, is glad to be with a or b: the first that breaks JOIN is b with c
    LandUnions kept = outsideSeller();
    kept.set(0, 2);
    due("enter(1, 0, 0)", kept.enter(1, 0, 0), 375 - 300);
    due("enter(1, 0, 1)", kept.enter(1, 0, 1), 875 - 900);
    due("breaks(1): a keeps b out", kept.breaks(1), 112);
  }

  private static void rests() {
    promise = 13;
    LandUnions x = pair();
    due("rests(0, -1, 0)", x.rests(0, -1, 0), 2);
    due("rests(1, -1, 0)", x.rests(1, -1, 0), 1);
    due("rests(2, -1, 99)", x.rests(2, -1, 99), 1);
    due("rests(0, 0, 1)", x.rests(0, 0, 1), 0);
    due("rests(0, 1, 1)", x.rests(0, 1, 1), 1);
    due("rests(0, 2, 1)", x.rests(0, 2, 1), NONE);
    due("rests(0, MAX, 1)", x.rests(0, MAX, 1), NONE);
    for (int rest = 0; rest < 3; rest++) {
      due("rests(" + rest + ", -2, 1)", x.rests(rest, -2, 1), NONE);
      due("rests(" + rest + ", -7, 0)", x.rests(rest, -7, 0), NONE);
      due("rests(" + rest + ", MIN, 0)", x.rests(rest, MIN, 0), NONE);
    }
    due("rests(3, -2, 1)", x.rests(3, -2, 1), OUTSIDE);
    due("rests(-1, MIN, 1)", x.rests(-1, MIN, 1), OUTSIDE);
    due("rests(0, MIN, 2)", x.rests(0, MIN, 2), UNKNOWN);
    due("rests(3, 0, 1)", x.rests(3, 0, 1), OUTSIDE);
    due("rests(-1, -1, 1)", x.rests(-1, -1, 1), OUTSIDE);
    due("rests(3, -1, 9)", x.rests(3, -1, 9), OUTSIDE);
    due("rests(3, 0, 2)", x.rests(3, 0, 2), UNKNOWN);
    due("rests(0, -2, -1)", x.rests(0, -2, -1), UNKNOWN);
    x.change(0, 2, 0);
    due("rests(2, -1, 0) after a change", x.rests(2, -1, 0), 2);
    due("told(4): THE PARTING is as it was", x.told(4), 2);

    LandUnions like = world(30, 10, 0, 0, 30, 10, 0, 0, 30, 10, 0, 0, 30, 10, 0, 0);
    String[] order = {"0000", "0001", "0010", "0011", "0012", "0100", "0101", "0102", "0110", "0111", "0112", "0120", "0121", "0122", "0123"};
    due("rests(2, -1, 0)", like.rests(2, -1, 0), order.length);
    for (int i = 0; i < order.length; i++) {
      for (int l = 0; l < 4; l++) due("rests(2, " + i + ", " + l + ")", like.rests(2, i, l), order[i].charAt(l) - '0');
    }
  }

  private static void go() {
    promise = 14;
    LandUnions x = three();
    for (int l = 0; l < 3; l++) {
      due("go(" + l + ", 0)", x.go(l, 0), 2);
      due("go(" + l + ", 1)", x.go(l, 1), 0);
      for (int k = 0; k < 3; k++) due("go(" + l + ", 1" + k + ")", x.go(l, 10 + k), 0);
      due("go(" + l + ", 13)", x.go(l, 13), NONE);
      due("go(" + l + ", 15)", x.go(l, 15), NONE);
    }
    due("go(0, 2)", x.go(0, 2), OUTSIDE);
    due("go(0, 9)", x.go(0, 9), OUTSIDE);
    due("go(0, 16)", x.go(0, 16), OUTSIDE);
    due("go(0, -1)", x.go(0, -1), OUTSIDE);
    due("go(3, 16)", x.go(3, 16), UNKNOWN);
    due("go(-1, 0)", x.go(-1, 0), UNKNOWN);
    due("told(4): THE PARTING is as it was", x.told(4), 3);
    parted(x, "abc");
    due("go(0, 0) from a rest", x.go(0, 0), 0);
    due("go(0, 1) from a rest", x.go(0, 1), 0);

    LandUnions leaver = outsideSeller();
    leaver.set(0, 1);
    parted(leaver, "ab|c");
    due("go(1, 1)", leaver.go(1, 1), 0);
    due("go without lands", new LandUnions().go(0, 0), UNKNOWN);

    // found by trying many; the second program of LandUnionsOracle goes the same ways
    LandUnions ring = world(41, 7, 1, 6, 22, 6, 8, 8, 28, 1, 6, 20);
    ring.set(0, 2);
    due("go(0, 0) in a ring", ring.go(0, 0), 4);
    due("go(0, 1) in a ring", ring.go(0, 1), 3);
  }

  private static void whole() {
    promise = 15;
    LandUnions x = pair();
    due("whole(0)", x.whole(0), 0);
    due("whole(1)", x.whole(1), 12 + 36);
    due("whole(2)", x.whole(2), 1);
    due("whole(3)", x.whole(3), OUTSIDE);
    due("whole(-1)", x.whole(-1), OUTSIDE);
    LandUnions same = world(20, 10, 0, 5);
    due("whole(2) of one: NEEDS and SPARE alike", same.whole(2), 1);
    // as one b buys of a, at 11 and not of itself at 12: b loses 18 x 6 and gains 1 x 37, a gains 2 x 19
    LandUnions loser = world(30, 10, 1, 60, 30, 9, 3, 60);
    int apart = 18 * 18 + 6 * 18, one = 19 * 19;
    due("whole(0)", loser.whole(0), apart - one);
    due("whole(1)", loser.whole(1), 2 * 19);
    due("whole(2)", loser.whole(2), 0);
    parted(loser, "ab");
    due("whole(0) in whatever PARTING", loser.whole(0), apart - one);
    due("holds()", loser.holds(), apart - one);
  }

  private static void rules() {
    promise = 16;
    LandUnions x = outsideSeller();
    due("rules() apart", x.rules(), 7);
    parted(x, "ab|c");
    due("rules() by the least wall", x.rules(), 7);
    x.set(0, 1);
    due("rules() by the greatest", x.rules(), 0);
    due("told(3)", x.told(3), 0);
    // a takes 7 x 23, b 7 x 13, over a wall of 7 (its own): alike 126 each, b has more
    LandUnions y = world(35, 50, 0, 7, 25, 50, 0, 7, 15, 1, 4, 3);
    parted(y, "ab|c");
    y.set(1, 2);
    due("rules(): each its own alone", y.rules(), 1);
    due("told(3)", y.told(3), 2);
  }

  private static void propose() {
    promise = 17;
    LandUnions x = three();
    int[] sets = {7, 3, 5}, goods = {475, 361, 361};
    for (int l = 0; l < 3; l++) {
      due("propose(" + l + ", 0)", x.propose(l, 0), sets[l]);
      due("propose(" + l + ", 1)", x.propose(l, 1), goods[l]);
    }
    parted(x, "abc");
    due("propose(0, 0)", x.propose(0, 0), NONE);
    due("propose(0, 1)", x.propose(0, 1), NONE);
    due("propose(0, 2)", x.propose(0, 2), OUTSIDE);
    due("propose(0, -1)", x.propose(0, -1), OUTSIDE);
    due("propose(3, 2)", x.propose(3, 2), UNKNOWN);
    LandUnions y = outsideSeller();
    y.set(0, 1);
    parted(y, "ab|c");
    due("propose(0, 0): alone, with c or with both 900, the least as bits", y.propose(0, 0), 1);
    due("propose(0, 1)", y.propose(0, 1), 900);
    due("told(4)", y.told(4), 2);
  }

  private static void enter() {
    promise = 18;
    LandUnions x = pair();
    due("enter(0, 1, 0)", x.enter(0, 1, 0), 12);
    due("enter(0, 1, 1)", x.enter(0, 1, 1), 36);
    due("enter(1, 0, 0)", x.enter(1, 0, 0), 36);
    due("enter(1, 0, 1)", x.enter(1, 0, 1), 12);
    due("enter(0, 0, 0)", x.enter(0, 0, 0), LOST + OUTSIDE);
    due("enter(0, 2, 0)", x.enter(0, 2, 0), LOST + OUTSIDE);
    due("enter(0, -1, 0)", x.enter(0, -1, 0), LOST + OUTSIDE);
    due("enter(0, 1, 2)", x.enter(0, 1, 2), LOST + OUTSIDE);
    due("enter(0, 1, -1)", x.enter(0, 1, -1), LOST + OUTSIDE);
    due("enter(2, 9, 9)", x.enter(2, 9, 9), LOST + UNKNOWN);
    due("enter(-1, 0, 0)", x.enter(-1, 0, 0), LOST + UNKNOWN);
    due("told(4)", x.told(4), 2);
    LandUnions y = outsideSeller();
    y.set(0, 1);
    due("enter(0, 1, 0): below 0", y.enter(0, 1, 0), 800 - 900);
    due("enter(1, 0, 1): theirs below 0", y.enter(1, 0, 1), 800 - 900);
    parted(y, "ab|c");
    due("enter(2, 0, 1): of two", y.enter(2, 0, 1), (900 - 800) + (400 - 300));
    due("enter(2, 0, 0)", y.enter(2, 0, 0), 8 * (20 + 30 - 10 - 20));
  }

  private static void holds() {
    promise = 19;
    due("holds() without lands", new LandUnions().holds(), 0);
    LandUnions x = outsideSeller();
    due("holds() apart", x.holds(), 0);
    parted(x, "ab|c");
    int[][] costs = {{0, 100, 25}, {0, 200, 75}, {0, 150, 41}};
    for (int shares = 0; shares < 3; shares++) {
      x.set(1, shares);
      for (int walls = 0; walls < 3; walls++) {
        x.set(0, walls);
        due("holds() by WALLS " + walls + ", SHARES " + shares, x.holds(), costs[shares][walls]);
      }
    }
  }

  private static void hurt() {
    promise = 20;
    LandUnions x = outsideSeller();
    for (int u = 0; u < 3; u++) due("hurt(" + u + ") apart", x.hurt(u), 0);
    parted(x, "ab|c");
    due("hurt(0) by the least wall", x.hurt(0), 0);
    x.set(0, 1);
    due("hurt(0) by the greatest", x.hurt(0), 4);
    due("hurt(1)", x.hurt(1), 0);
    due("hurt(2)", x.hurt(2), OUTSIDE);
    due("hurt(-1)", x.hurt(-1), OUTSIDE);
    due("told(4)", x.told(4), 2);
  }

  private static void edge() {
    promise = 21;
    LandUnions x = outsideSeller();
    x.change(2, 1, 5);
    x.change(2, 2, 0);
    x.set(0, 2);
    parted(x, "ab|c");
    due("edge(0)", x.edge(0), 5);
    due("edge(2)", x.edge(2), 35);
    due("told(10)", x.told(10), 50);
    due("breaks(0)", x.breaks(0), 0);
    x.change(0, 1, 5);
    due("edge(0) the other way", x.edge(0), 6);
    due("edge(3)", x.edge(3), UNKNOWN);
    due("edge(-1)", x.edge(-1), UNKNOWN);
    // both at a price of 7, sold by a: b has 53 x 53 and would have 53 x 57; 2 less or more turns it
    LandUnions twins = world(70, 5, 2, 7, 60, 5, 2, 4);
    parted(twins, "ab");
    due("breaks(0) of twins", twins.breaks(0), 1);
    due("edge(0): 3 and 7 are as near", twins.edge(0), 3);
    due("edge(1): 3 and 7 are as near", twins.edge(1), 3);
    // a leaves to buy of c without a toll, be it one alone, till c costs as much as a wishes
    LandUnions far = world(99, 99, 0, 0, 1, 99, 0, 10, 1, 1, 0, 0);
    far.set(0, 1);
    parted(far, "ab|c");
    due("edge(2): from 1 to 99", far.edge(2), 99);
    due("change(2, 1, 99)", far.change(2, 1, 99), 1);
    due("edge(2): back", far.edge(2), 98);
    LandUnions alone = world(50, 20, 3, 9);
    due("edge(0) of one alone", alone.edge(0), NONE);
  }

  private static void told() {
    promise = 22;
    LandUnions x = three();
    parted(x, "ac|b");
    text(x, "?!");
    x.set(0, 1);
    x.set(1, 2);
    int[] want = {3, 2, 1, 2, 2};
    for (int what = 0; what < 5; what++) due("told(" + what + ")", x.told(what), want[what]);
    int[] costs = {10, 20, 20, NONE, NONE, NONE};
    for (int k = 0; k < 6; k++) due("told(1" + k + ")", x.told(10 + k), costs[k]);
    for (int off : new int[] {-1, 5, 9, 16, MIN, MAX}) due("told(" + off + ")", x.told(off), OUTSIDE);
  }

  public static void main(String[] args) {
    newObject();
    land();
    change();
    set();
    say();
    wipe();
    fault();
    part();
    union();
    of();
    all();
    breaks();
    rests();
    go();
    whole();
    rules();
    propose();
    enter();
    holds();
    hurt();
    edge();
    told();
    System.out.println(wrong == 0 ? "all answers are as due" : wrong + " answers are not as due");
    if (wrong != 0) System.exit(1);
  }
}
