import java.io.IOException;
import java.lang.reflect.Field;
import java.lang.reflect.Method;
import java.lang.reflect.Modifier;
import java.nio.file.Files;
import java.nio.file.Path;
import java.util.ArrayList;
import java.util.Arrays;
import java.util.List;
import java.util.TreeSet;
import java.util.regex.Matcher;
import java.util.regex.Pattern;

/** The public face, and the rules of LANGUAGE.md that can be read off the class and its file. */
public final class FaceTest {
  private static final String SOURCE = "src/main/java/StairRow.java";
  private static final String FACE =
      "house(int) of(int,int) change(int,int,int) stair(int,int) name(int,int,int,boolean)"
      + " door(int,boolean) lets(int,int,int) letting(int,int) joined(int) way(int,int,int)"
      + " noise(int,int,int) step(int,int,int) reach(int,int) off(int) hours(int) latest(int)"
      + " best(int) worth(int,int) helps(int,int) needs(int,int) law(int) quarrel(int,int,int)"
      + " ring(int) share(int,int,int,int) beds(int) swaps() fire() open(int) shift() gossip(int)"
      + " seed(int) feed(int,int) wipe() text() hold(int,int) as(int,int) sheet(int,int,int)"
      + " write(int,int,int) copy(int,int,int,int,int) load(int) judge(int,int,int) image() undo()"
      + " tear() count(int) status(int)";

  private static int wrong = 0;

  public static void main(String[] args) throws IOException {
    face();
    classesInside();
    source(Files.readString(Path.of(SOURCE)));
    System.out.println(wrong == 0 ? "the face and the rules hold" : wrong + " wrong");
    if (wrong != 0) {
      System.exit(1);
    }
  }

  private static void must(boolean is, String rule) {
    if (!is) {
      wrong++;
      System.out.println("not so: " + rule);
    }
  }

  private static String signature(Method m) {
    List<String> types = new ArrayList<>();
    for (Class<?> type : m.getParameterTypes()) {
      types.add(type.getSimpleName());
    }
    return m.getName() + "(" + String.join(",", types) + ")";
  }

  private static void face() {
    Class<?> c = StairRow.class;
    must(Modifier.isPublic(c.getModifiers()) && Modifier.isFinal(c.getModifiers()), "public final");
    must(c.getSuperclass() == Object.class && c.getInterfaces().length == 0, "nothing above it");
    must(c.getDeclaredConstructors().length == 1 && c.getConstructors().length == 1
        && c.getConstructors()[0].getParameterCount() == 0, "one public constructor");
    TreeSet<String> due = new TreeSet<>(Arrays.asList(FACE.split(" ")));
    must(due.size() == 46, "46 methods are due");
    TreeSet<String> got = new TreeSet<>();
    for (Method m : c.getDeclaredMethods()) {
      if (!Modifier.isPrivate(m.getModifiers())) {
        got.add(signature(m));
        must(Modifier.isPublic(m.getModifiers()) && !Modifier.isStatic(m.getModifiers())
            && m.getReturnType() == int.class, m + " is public and tells an int");
      }
    }
    must(got.equals(due), "the face is " + due + ", not " + got);
    for (Field f : c.getDeclaredFields()) {
      must(Modifier.isPrivate(f.getModifiers()), f + " is private");
    }
  }

  private static void classesInside() {
    TreeSet<String> publicNames = new TreeSet<>();
    for (String one : FACE.split(" ")) {
      publicNames.add(one.substring(0, one.indexOf('(')));
    }
    List<Class<?>> all = new ArrayList<>(Arrays.asList(StairRow.class.getDeclaredClasses()));
    must(all.size() + 1 <= 12, "some twelve classes");
    all.add(StairRow.class);
    for (Class<?> c : all) {
      must(c == StairRow.class || Modifier.isStatic(c.getModifiers()), c + " is static");
      must(c == StairRow.class || !Modifier.isPublic(c.getModifiers()), c + " is not public");
      int fields = 0;
      for (Field f : c.getDeclaredFields()) {
        fields += Modifier.isStatic(f.getModifiers()) ? 0 : 1;
        must(!Modifier.isStatic(f.getModifiers()) || Modifier.isFinal(f.getModifiers()), f + " final");
      }
      must(fields <= 20, c + " has some twenty fields");
      for (Method m : c.getDeclaredMethods()) {
        must(Modifier.isPublic(m.getModifiers()) || !publicNames.contains(m.getName()),
            m + " bears no name of the face");
        must(m.getParameterCount() <= 7, m + " takes at most seven");
        must(!m.isSynthetic(), m + " is written out (no lambda, no bridge)");
      }
    }
  }

  private static void source(String text) {
    for (int i = 0; i < text.length(); i++) {
      must(text.charAt(i) >= 10 && text.charAt(i) < 127, "signs of the file");
    }
    String bare = text.replaceAll("(?s)/\\*.*?\\*/", " ").replaceAll("//[^\n]*", " ");
    String code = bare.replaceAll("\"[^\"\n]*\"", "\"\"").replaceAll("'[^'\n]+'", "' '");
    for (String no : new String[] {"throw", "throws", "try", "catch", "finally", "synchronized",
        "assert", "import", "package", "record", "instanceof", "volatile", "transient", "native",
        "hashCode", "toString", "var", "yield", "double", "float"}) {
      must(!Pattern.compile("\\b" + no + "\\b").matcher(code).find(), "no " + no);
    }
    for (String no : new String[] {"->", "::", "@", "\"\"\""}) {
      must(!code.contains(no), "no " + no);
    }
    must(!Pattern.compile("\"\"\\s*\\+|\\+\\s*\"\"|[=!]=\\s*\"\"").matcher(code).find(), "no + on texts");
    TreeSet<String> library = new TreeSet<>();
    Matcher m = Pattern.compile("\\b(Integer|Long|Math|System|Arrays|String)\\.(\\w+)").matcher(code);
    while (m.find()) {
      library.add(m.group());
    }
    library.removeAll(List.of("Integer.bitCount", "Math.min", "Math.max", "System.arraycopy"));
    must(library.isEmpty(), "only the library of the rules, not " + library);
    methodLengths(code);
  }

  private static void methodLengths(String code) {
    String[] lines = code.split("\n");
    int begun = -1;
    for (int i = 0; i < lines.length; i++) {
      if (lines[i].matches(" {2,4}(public|private)[^=]*\\(.*\\) \\{")) {
        begun = i;
      } else if (begun >= 0 && lines[i].matches(" {2,4}\\}")
          && lines[i].indexOf('}') == indent(lines[begun])) {
        must(i - begun < 60, "a method is short: " + lines[begun].trim());
        begun = -1;
      }
    }
  }

  private static int indent(String line) {
    int n = 0;
    while (line.charAt(n) == ' ') {
      n++;
    }
    return n;
  }
}
