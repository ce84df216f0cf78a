import java.lang.reflect.Method;
import java.util.ArrayList;
import java.util.List;

/** Long runs of calls, drawn from fixed seeds, asked of the program and of the model. */
public final class ModelTest {
  private static final int RUNS = 1500;
  private static final int CALLS = 300;

  /** What each argument of a call is: a letter each, told in drawn(). */
  private static final String[] CALLS_OF_FACE = {
    "house k", "of h7", "change h7v", "stair hw", "name h1fb", "door db", "lets hfc",
    "letting fc", "joined r", "way frc", "noise frc", "step fci", "reach fc", "off c", "hours f",
    "latest f", "best f", "worth hc", "helps fc", "needs fc", "law c", "quarrel hhc", "ring h",
    "share hfc1", "beds h", "swaps ", "fire ", "open c", "shift ", "gossip g", "seed x",
    "feed xn", "wipe ", "text ", "hold ph", "as pk", "sheet stm", "write siy", "copy sisin",
    "load s", "judge sfc", "image ", "undo ", "tear ", "count 7", "status u"};
  private static final int[] EXTREMES =
      {Integer.MIN_VALUE, Integer.MAX_VALUE, -1, -2, 1 << 16, -1000001, 99, 24, 41, 8, 16};
  private static final String[] SCRAPS = {
    "house", "strict", "open", "inn", "guard", "sick", "quarrel", " left", " right", " from ",
    " to ", " sleepers ", "leave ", "foes ", "door ", "bed ", " in ", ";", ";", ";", " ", "0", "1",
    "2", " 3", " 7", "12", "23", "24", "1000", "x", "A", ",", "houses", "\u00e4"};

  private static int seed = 1;
  private static int asked = 0;

  public static void main(String[] args) throws Exception {
    List<Method> methods = new ArrayList<>();
    for (String call : CALLS_OF_FACE) {
      methods.add(methodOf(call.substring(0, call.indexOf(' '))));
    }
    for (int run = 0; run < RUNS; run++) {
      run(run, methods);
    }
    System.out.println(asked + " asked, all as the model");
  }

  private static Method methodOf(String name) {
    for (Method m : StairRow.class.getDeclaredMethods()) {
      if (m.getName().equals(name)) {
        return m;
      }
    }
    throw new IllegalStateException("no method " + name);
  }

  private static int below(int bound) {
    seed = seed * 1664525 + 1013904223;
    return (seed >>> 8) % bound;
  }

  private static void run(int run, List<Method> methods) throws Exception {
    StairRow x = new StairRow();
    Model model = new Model();
    StringBuilder log = new StringBuilder();
    int houses = below(9);
    int kinds = 1 + below(7);
    for (int h = 0; h < houses; h++) {
      ask(x, model, methodOf("house"), log, below(kinds));
      ask(x, model, methodOf("stair"), log, h, below(3) - 1);
    }
    int density = 1 + below(4);
    for (int k = 0; k < 16 * density; k++) {
      ask(x, model, methodOf("name"), log, below(8), below(4) / 3, below(8), 1);
    }
    for (int k = 0; k < 3 * density; k++) {
      ask(x, model, methodOf("door"), log, below(14), 1);
    }
    int wild = below(3) * 4;
    for (int k = 0; k < CALLS; k++) {
      int which = below(CALLS_OF_FACE.length);
      String call = CALLS_OF_FACE[which];
      String kindsOfArguments = call.substring(call.indexOf(' ') + 1);
      if (call.startsWith("feed") && below(2) == 0) {
        write(x, model, log);
      } else if (call.startsWith("judge") && below(2) == 0) {
        fillWithWay(x, model, log);
      }
      int[] a = new int[kindsOfArguments.length()];
      for (int i = 0; i < a.length; i++) {
        a[i] = below(100) < wild ? EXTREMES[below(EXTREMES.length)] : drawn(kindsOfArguments.charAt(i), x);
      }
      ask(x, model, methods.get(which), log, a);
    }
  }

  private static int drawn(char kind, StairRow x) {
    int houses = Math.max(1, x.count(0));
    switch (kind) {
      case 'k': return below(7);
      case 'h': return below(houses);
      case 'f': return below(houses);
      case 'c': return below(24);
      case 'r': return below(2 * houses);
      case 'v': return below(3) == 0 ? below(24) : below(houses);
      case 'w': return below(3) - 1;
      case 'b': return below(2);
      case 'd': return below(14);
      case 'i': return below(4) == 0 ? below(16) : below(4);
      case 'g': return 1 + below(12);
      case 'x': return below(1 << 24) << 8 ^ below(1 << 24);
      case 'n': return below(5);
      case 'p': return below(10);
      case 's': return below(4);
      case 't': return 8 << below(3);
      case 'm': return below(41);
      case 'y': return below(2) == 0 ? below(16) : below(1 << 24) << 8 ^ below(1 << 24);
      case 'u': return below(8) - 1;
      case '1': return below(2);
      default: return below(8);
    }
  }

  private static void write(StairRow x, Model model, StringBuilder log) throws Exception {
    ask(x, model, methodOf("wipe"), log);
    StringBuilder text = new StringBuilder();
    int items = 1 + below(5);
    for (int k = 0; k < items; k++) {
      text.append(k == 0 ? "" : ";").append(item(x));
    }
    if (below(3) == 0) {
      text.insert(below(text.length() + 1), SCRAPS[below(SCRAPS.length)]);
    }
    if (below(4) == 0) {
      text.setLength(below(text.length() + 1));
    }
    for (int i = 0; i < text.length(); i++) {
      ask(x, model, methodOf("feed"), log, text.charAt(i), 1);
    }
    ask(x, model, methodOf("text"), log);
  }

  private static String item(StairRow x) {
    int houses = x.count(0) + 1;
    switch (below(6)) {
      case 0: return "leave " + below(houses) + " " + below(9) + " " + below(8);
      case 1: return "foes " + below(houses) + " " + below(9);
      case 2: return "door " + below(15);
      case 3: return "bed " + below(houses) + " in " + below(houses);
      default:
        return SCRAPS[below(7)] + (below(2) == 0 ? SCRAPS[7 + below(2)] : "")
            + (below(2) == 0 ? " from " + below(25) + " to " + below(25) : "")
            + (below(2) == 0 ? " sleepers " + below(11) : "");
    }
  }

  /** A sheet with the way home, so that judge() meets right ones; with too many rooms sometimes. */
  private static void fillWithWay(StairRow x, Model model, StringBuilder log) throws Exception {
    int family = below(8);
    int clock = below(24);
    int s = below(4);
    int n = 0;
    for (; n < 8 && ask(x, model, methodOf("step"), log, family, clock, n) >= 0; n++) {
      continue;
    }
    ask(x, model, methodOf("sheet"), log, s, 8 << below(3), n + below(3) / 2);
    for (int i = 0; i < n; i++) {
      int room = ask(x, model, methodOf("step"), log, family, clock, i);
      ask(x, model, methodOf("write"), log, s, i, room);
    }
    ask(x, model, methodOf("judge"), log, s, family, clock);
  }

  private static int ask(StairRow x, Model model, Method m, StringBuilder log, int... a)
      throws Exception {
    Object[] boxed = new Object[a.length];
    log.append(m.getName()).append('(');
    for (int i = 0; i < a.length; i++) {
      boolean is = m.getParameterTypes()[i] == boolean.class;
      boxed[i] = is ? (Object) (a[i] != 0) : (Object) a[i];
      log.append(i == 0 ? "" : ", ").append(boxed[i]);
    }
    log.append(")\n");
    int got = (Integer) m.invoke(x, boxed);
    int want = model.ask(m.getName(), a);
    asked++;
    if (got != want) {
      System.out.print(log);
      System.out.println("answered " + got + ", the model " + want);
      System.exit(1);
    }
    return got;
  }
}
