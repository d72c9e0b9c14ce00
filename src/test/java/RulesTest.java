import java.lang.reflect.Constructor;
import java.lang.reflect.Field;
import java.lang.reflect.Member;
import java.lang.reflect.Method;
import java.lang.reflect.Modifier;
import java.nio.charset.StandardCharsets;
import java.nio.file.Files;
import java.nio.file.Path;
import java.util.ArrayList;
import java.util.Arrays;
import java.util.HashSet;
import java.util.List;
import java.util.Set;
import java.util.TreeSet;
import java.util.regex.Matcher;
import java.util.regex.Pattern;

/** The face, and the rules of LANGUAGE.md as far as reflection and a search of the text can see them. */
public final class RulesTest {
  private static final String[] FACE = {
    "int feed(int,int,int,int,int)", "int end(int)", "int code()", "long goodness(int)", "int kept(int)",
    "long word(long)", "int check(long)", "long systematic(long)", "int row(int)", "int hear()", "int tell(int,int)",
    "int send(long,int,int)", "int sum(int)", "int distance(long)", "int list(int)", "long read()", "int told(int)",
    "int path(int,int,int)", "long message(int)", "int work(int,boolean,int)", "int grown(int)", "int flipped(int)",
    "int sought(int)", "long soughtMessage()", "int nearest(int)", "int weights(int)", "int draws(int)",
    "int frames(int,int,int,int)", "int undo()", "int image(int)", "int back(int)", "int count(int)"
  };
  private static int wrong = 0;

  public static void main(String[] args) throws Exception {
    face();
    List<Class<?>> all = new ArrayList<>();
    all.add(ButterflyCode.class);
    all.addAll(Arrays.asList(ButterflyCode.class.getDeclaredClasses()));
    require(all.size() <= 12, "rule 11: at most twelve classes");
    for (Class<?> c : all) classRules(c);
    text(Files.readString(Path.of("src/main/java/ButterflyCode.java"), StandardCharsets.UTF_8));
    System.out.println("RulesTest: " + wrong + " broken");
    if (wrong != 0) System.exit(1);
  }

  private static void require(boolean holds, String what) {
    if (!holds) {
      wrong++;
      System.out.println("broken: " + what);
    }
  }

  private static String told(Method m) {
    StringBuilder b = new StringBuilder(m.getReturnType() + " " + m.getName() + "(");
    for (Class<?> p : m.getParameterTypes()) b.append(b.charAt(b.length() - 1) == '(' ? "" : ",").append(p);
    return b.append(")").toString();
  }

  private static void face() {
    Class<?> c = ButterflyCode.class;
    require(Modifier.isPublic(c.getModifiers()) && Modifier.isFinal(c.getModifiers()), "rule 1: public and final");
    Set<String> methods = new TreeSet<>();
    Set<String> names = new HashSet<>();
    for (Method m : c.getDeclaredMethods()) {
      if (Modifier.isPublic(m.getModifiers())) {
        methods.add(told(m));
        names.add(m.getName());
        require(!Modifier.isStatic(m.getModifiers()), "rule 1: " + m.getName() + " is static");
      }
    }
    require(methods.equals(new TreeSet<>(Arrays.asList(FACE))), "rule 1: the face is " + methods);
    for (Method m : c.getDeclaredMethods()) {
      require(Modifier.isPublic(m.getModifiers()) || !names.contains(m.getName()), "rule 1: private " + m.getName() + " bears a public name");
      hidden(m);
    }
    for (Field f : c.getDeclaredFields()) hidden(f);
    Constructor<?>[] makers = c.getDeclaredConstructors();
    require(makers.length == 1 && Modifier.isPublic(makers[0].getModifiers()) && makers[0].getParameterCount() == 0, "rule 1: one public constructor");
    require(ButterflyCode.NONE == -1, "NONE is -1");
  }

  private static void hidden(Member m) {
    boolean ofFace = Modifier.isPublic(m.getModifiers()) && (m instanceof Method || m.getName().equals("NONE"));
    require(ofFace || Modifier.isPrivate(m.getModifiers()), "rule 1: " + m.getName() + " is not private");
  }

  private static void classRules(Class<?> c) {
    if (c != ButterflyCode.class) {
      require(Modifier.isStatic(c.getModifiers()), "rule 2: " + c.getName() + " is static");
      require(!Modifier.isPublic(c.getModifiers()) && !Modifier.isProtected(c.getModifiers()), "rule 1: " + c.getName() + " is hidden");
    }
    int fields = 0;
    for (Field f : c.getDeclaredFields()) {
      if (!Modifier.isStatic(f.getModifiers())) fields++;
      else require(Modifier.isFinal(f.getModifiers()), "rule 5: " + c.getName() + "." + f.getName() + " is final");
      Class<?> t = f.getType();
      boolean known = t.isPrimitive() || t.isArray() || t == String.class || t.getName().startsWith("ButterflyCode");
      require(known, "rule 3: type of " + c.getName() + "." + f.getName());
    }
    require(fields <= 20, "rule 11: " + c.getName() + " has " + fields + " fields");
    for (Method m : c.getDeclaredMethods()) {
      require(m.getParameterCount() <= 7, "rule 11: parameters of " + m.getName());
      boolean ofFace = c == ButterflyCode.class && Modifier.isPublic(m.getModifiers());
      for (String f : FACE) require(ofFace || !f.contains(" " + m.getName() + "("), "rule 1: " + c.getName() + "." + m.getName() + " bears a public name");
    }
  }

  private static void text(String source) {
    String bare = source.replaceAll("(?s)/\\*.*?\\*/", "").replaceAll("//[^\n]*", "").replaceAll("\"[^\"\n]*\"", "\"\"");
    String[] words = {"throw", "throws", "try", "catch", "finally", "synchronized", "assert", "package", "import", "native", "var", "Exception", "Object", "System\\.(?!arraycopy)\\w+", "\\w*Exact"};
    for (String w : words) require(!Pattern.compile("\\b" + w + "\\b").matcher(bare).find(), "rule 4 or 6: " + w);
    require(!bare.contains("->") && !bare.contains("::"), "rule 2: no lambda, no method reference");
    require(!Pattern.compile("static\\s*\\{").matcher(bare).find(), "rule 5: no static block");
    for (char ch : source.toCharArray()) require(ch < 128, "rule 4: signs of the text are 1 to 127");
    Matcher library = Pattern.compile("\\b(Math|Integer|Long)\\.(\\w+)").matcher(bare);
    while (library.find()) require(Set.of("max", "min", "abs", "bitCount", "numberOfTrailingZeros").contains(library.group(2)), "rule 4: " + library.group());
    methods(bare);
    rooms(bare);
  }

  private static void methods(String bare) {
    Matcher head = Pattern.compile("(?m)^( {2}| {4})(?=\\S)[^=;\n]*\\)\\s*\\{$").matcher(bare);
    while (head.find()) {
      String close = "\n" + head.group(1) + "}";
      int lines = bare.substring(head.start(), Math.max(head.start(), bare.indexOf(close, head.start()))).split("\n").length;
      require(lines <= 60, "rule 11: " + lines + " lines: " + head.group().trim());
    }
  }

  /** Calls make nothing: all rows are made with the object, so that a long run stays in its room. */
  private static void rooms(String bare) {
    Matcher made = Pattern.compile("(?m)^.*\\bnew\\b.*$").matcher(bare);
    while (made.find()) {
      String line = made.group().trim();
      boolean field = line.matches("(private )?(static )?(final )?[\\w\\[\\]]+ \\w+ = new .*;");
      boolean filled = line.equals("past[i] = new State();") || line.equals("images[i] = new State();");
      require(field && !line.startsWith("int ") && !line.startsWith("long ") || filled, "rule 12: made in a call: " + line);
    }
  }
}
