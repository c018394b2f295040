import java.lang.management.ManagementFactory;
import java.lang.reflect.Constructor;
import java.lang.reflect.Field;
import java.lang.reflect.Method;
import java.lang.reflect.Modifier;
import java.nio.file.Files;
import java.nio.file.Path;
import java.util.Random;
import java.util.TreeSet;
import java.util.regex.Matcher;
import java.util.regex.Pattern;

/** The public face, the rules of the language that a look at the text can tell, and the room. */
public final class LandUnionsFace {
  private static final String[] METHODS = {
    "land(int,int,int,int)", "change(int,int,int)", "set(int,int)", "say(int)", "wipe()", "fault()", "part()", "union(int)",
    "of(int,int)", "all(int)", "breaks(int)", "rests(int,int,int)", "go(int,int)", "whole(int)", "rules()", "propose(int,int)",
    "enter(int,int,int)", "holds()", "hurt(int)", "edge(int)", "told(int)"
  };
  private static final String[] CONSTANTS = {"UNKNOWN", "OUTSIDE", "STATE", "FULL", "NO", "NONE", "LOST"};
  private static final String[] FORBIDDEN = {
    "\\bthrow\\b", "\\btry\\b", "\\bcatch\\b", "\\bsynchronized\\b", "\\bassert\\b", "\\bimport\\b", "->", "::", "\\bSystem\\b(?!\\.arraycopy)",
    "\\bprotected\\b", "\\bnew\\s+\\w+\\s*\\([^)]*\\)\\s*\\{", "Exact\\b", "\\b(Integer|Long|Math)\\.[A-Z]", "\\bThread\\b", "\\bRandom\\b", "static\\s*\\{"
  };

  private static int wrong = 0;

  private static void check(boolean right, String what) {
    if (!right) { wrong++; System.out.println(what); }
  }

  private static String signature(Method m) {
    StringBuilder s = new StringBuilder(m.getName()).append('(');
    for (Class<?> p : m.getParameterTypes()) s.append(s.charAt(s.length() - 1) == '(' ? "" : ",").append(p.getName());
    return s.append(')').toString();
  }

  private static void face() {
    int mods = LandUnions.class.getModifiers();
    check(Modifier.isPublic(mods) && Modifier.isFinal(mods), "the class is not public and final");
    Constructor<?>[] made = LandUnions.class.getDeclaredConstructors();
    check(made.length == 1 && Modifier.isPublic(made[0].getModifiers()) && made[0].getParameterCount() == 0, "there is not just the one constructor");
    TreeSet<String> want = new TreeSet<>(java.util.List.of(METHODS)), names = new TreeSet<>(), got = new TreeSet<>();
    for (String m : METHODS) names.add(m.substring(0, m.indexOf('(')));
    for (Method m : LandUnions.class.getDeclaredMethods()) {
      if (Modifier.isPublic(m.getModifiers())) {
        got.add(signature(m));
        check(m.getReturnType() == int.class && !Modifier.isStatic(m.getModifiers()), "not an int method: " + m);
      } else {
        check(Modifier.isPrivate(m.getModifiers()), "a method that others see: " + m);
        check(!names.contains(m.getName()), "a private method with a public name: " + m);
      }
    }
    check(got.equals(want), "the public methods are " + got);
    TreeSet<String> constants = new TreeSet<>();
    for (Field f : LandUnions.class.getDeclaredFields()) {
      if (Modifier.isPublic(f.getModifiers())) constants.add(f.getName());
      else check(Modifier.isPrivate(f.getModifiers()), "a field that others see: " + f);
      check(!Modifier.isStatic(f.getModifiers()) || Modifier.isFinal(f.getModifiers()), "a static field that is not final: " + f);
    }
    check(constants.equals(new TreeSet<>(java.util.List.of(CONSTANTS))), "the public fields are " + constants);
    Class<?>[] inside = LandUnions.class.getDeclaredClasses();
    check(inside.length <= 11, "too many classes: " + inside.length);
    for (Class<?> c : inside) {
      check(Modifier.isStatic(c.getModifiers()) && !Modifier.isPublic(c.getModifiers()), "a class inside that is not static or is public: " + c);
      check(c.getDeclaredFields().length <= 20, "too many fields: " + c);
      for (Method m : c.getDeclaredMethods()) check(!names.contains(m.getName()) && m.getParameterCount() <= 7, "a method inside with a public name or too many parameters: " + m);
    }
  }

  private static void language() throws java.io.IOException {
    String text = Files.readString(Path.of("src/main/java/LandUnions.java"));
    String code = text.replaceAll("(?s)/\\*.*?\\*/", " ").replaceAll("//[^\n]*", " ");
    for (char c : text.toCharArray()) check(c < 128, "a sign beyond 127");
    for (String f : FORBIDDEN) {
      Matcher m = Pattern.compile(f).matcher(code);
      if (m.find()) check(false, "outside the language: " + m.group());
    }
  }

  private static void allCalls(LandUnions x) {
    for (int l = 0; l < 6; l++) {
      for (int w = 0; w < 6; w++) x.of(l, w);
      x.go(l, 0);
      x.propose(l, 0);
      x.edge(l);
      x.enter(l, (l + 1) % 6, 1);
      x.hurt(l);
    }
    for (int r = 0; r < 3; r++) {
      x.breaks(r);
      x.rests(r, -1, 0);
      x.whole(r);
      x.all(r);
      x.told(r);
      x.set(0, r);
      x.set(1, r);
    }
    x.rules();
    x.holds();
    x.fault();
    for (int l = 0; l < 6; l++) x.say('a' + l);
    x.part();
    x.change(3, 1, 40);
  }

  /** Calls make nothing: all rows are made with the object, and these are few. */
  private static void room() {
    com.sun.management.ThreadMXBean bean = (com.sun.management.ThreadMXBean) ManagementFactory.getThreadMXBean();
    long thread = Thread.currentThread().getId();
    LandUnions x = new LandUnions();
    for (int l = 0; l < 6; l++) x.land(60 + l, 10 + 3 * l, 2, 5 + l);
    allCalls(x);
    long before = bean.getThreadAllocatedBytes(thread);
    for (int k = 0; k < 5; k++) allCalls(x);
    long calls = bean.getThreadAllocatedBytes(thread) - before;
    check(calls < 4096, "calls make objects: " + calls + " bytes");
    before = bean.getThreadAllocatedBytes(thread);
    for (int k = 0; k < 10; k++) new LandUnions();
    long made = (bean.getThreadAllocatedBytes(thread) - before) / 10;
    check(made < 32768, "a new object takes " + made + " bytes");
  }

  private static final int[] ODD = {Integer.MIN_VALUE, Integer.MAX_VALUE, -1000000000, -7, -6, -2, -1, 100, 127, 128, 203, 255, 256, 65536};

  private static int any(Random r) {
    int k = r.nextInt(20);
    return k == 0 ? ODD[r.nextInt(ODD.length)] : k < 14 ? r.nextInt(7) : k < 18 ? r.nextInt(25) : r.nextInt(130);
  }

  private static void anyCall(LandUnions x, Random r) {
    switch (r.nextInt(23)) {
      case 0: x.land(any(r), any(r), any(r), any(r)); break;
      case 1: x.change(any(r), any(r), any(r)); break;
      case 2: x.set(any(r), any(r)); break;
      case 3: x.say(any(r)); break;
      case 4: for (int k = 0; k < 6; k++) x.say("abcdef|||".charAt(r.nextInt(9))); break;
      case 5: if (r.nextInt(4) == 0) x.wipe(); break;
      case 6: x.fault(); break;
      case 7: x.part(); break;
      case 8: x.union(any(r)); break;
      case 9: x.of(any(r), any(r)); break;
      case 10: x.all(any(r)); break;
      case 11: x.breaks(any(r)); break;
      case 12: x.rests(any(r), any(r), any(r)); break;
      case 13: x.go(any(r), any(r)); break;
      case 14: x.whole(any(r)); break;
      case 15: x.rules(); break;
      case 16: x.propose(any(r), any(r)); break;
      case 17: x.enter(any(r), any(r), any(r)); break;
      case 18: x.holds(); break;
      case 19: x.hurt(any(r)); break;
      case 20: x.edge(any(r)); break;
      case 21: x.told(any(r)); break;
      default: x.change(r.nextInt(6), r.nextInt(4), 1 + r.nextInt(20));
    }
  }

  /** No call throws, for whatever numbers in whatever state, behind the 512th call too. */
  private static void throwsNothing() {
    for (int seed = 0; seed < 60; seed++) {
      Random r = new Random(seed);
      LandUnions x = new LandUnions();
      try {
        for (int k = 0; k < 2000; k++) anyCall(x, r);
      } catch (RuntimeException thrown) {
        check(false, "seed " + seed + ": a call threw " + thrown);
      }
    }
  }

  public static void main(String[] args) throws java.io.IOException {
    face();
    language();
    room();
    throwsNothing();
    System.out.println(wrong == 0 ? "the face, the language and the room are as due" : wrong + " are not as due");
    if (wrong != 0) System.exit(1);
  }
}
