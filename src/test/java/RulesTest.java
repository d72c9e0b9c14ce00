import java.lang.reflect.Constructor;
import java.lang.reflect.Field;
import java.lang.reflect.Member;
import java.lang.reflect.Method;
import java.lang.reflect.Modifier;
import java.nio.charset.StandardCharsets;
import java.nio.file.Files;
import java.nio.file.Path;
import java.util.ArrayList;
import java.util.Arrays;
import java.util.HashSet;
import java.util.List;
import java.util.Set;
import java.util.TreeSet;

/** The face by reflection, and the rules of LANGUAGE.md (see SourceRules). */
public final class RulesTest {
  private static final String[] FACE = {
    "int feed(int,int,int,int,int)", "int end(int)", "int code()", "long goodness(int)", "int kept(int)",
    "long word(long)", "int check(long)", "long systematic(long)", "int row(int)", "int hear()", "int tell(int,int)",
    "int send(long,int,int)", "int sum(int)", "int distance(long)", "int list(int)", "long read()", "int told(int)",
    "int path(int,int,int)", "long message(int)", "int work(int,boolean,int)", "int grown(int)", "int flipped(int)",
    "int sought(int)", "long soughtMessage()", "int nearest(int)", "int weights(int)", "int draws(int)",
    "int frames(int,int,int,int)", "int undo()", "int image(int)", "int back(int)", "int count(int)"
  };
  private static final Path SOURCE = Path.of("src/main/java/ButterflyCode.java");
  private static int wrong = 0;

  public static void main(String[] args) throws Exception {
    face();
    List<Class<?>> all = new ArrayList<>();
    all.add(ButterflyCode.class);
    all.addAll(Arrays.asList(ButterflyCode.class.getDeclaredClasses()));
    require(all.size() <= 12, "rule 11: at most twelve classes");
    for (Class<?> c : all) classRules(c);
    for (String what : SourceRules.brokenIn(SOURCE)) require(false, what);
    signs(Files.readString(SOURCE, StandardCharsets.UTF_8));
    System.out.println("RulesTest: " + wrong + " broken");
    if (wrong != 0) System.exit(1);
  }

  private static void require(boolean holds, String what) {
    if (!holds) {
      wrong++;
      System.out.println("broken: " + what);
    }
  }

  private static String told(Method m) {
    StringBuilder b = new StringBuilder(m.getReturnType() + " " + m.getName() + "(");
    for (Class<?> p : m.getParameterTypes()) b.append(b.charAt(b.length() - 1) == '(' ? "" : ",").append(p);
    return b.append(")").toString();
  }

  private static void face() {
    Class<?> c = ButterflyCode.class;
    require(Modifier.isPublic(c.getModifiers()) && Modifier.isFinal(c.getModifiers()), "rule 1: public and final");
    Set<String> methods = new TreeSet<>();
    Set<String> names = new HashSet<>();
    for (Method m : c.getDeclaredMethods()) {
      if (Modifier.isPublic(m.getModifiers())) {
        methods.add(told(m));
        names.add(m.getName());
        require(!Modifier.isStatic(m.getModifiers()), "rule 1: " + m.getName() + " is static");
      }
    }
    require(methods.equals(new TreeSet<>(Arrays.asList(FACE))), "rule 1: the face is " + methods);
    for (Method m : c.getDeclaredMethods()) {
      require(Modifier.isPublic(m.getModifiers()) || !names.contains(m.getName()), "rule 1: private " + m.getName() + " bears a public name");
      hidden(m);
    }
    for (Field f : c.getDeclaredFields()) hidden(f);
    Constructor<?>[] makers = c.getDeclaredConstructors();
    require(makers.length == 1 && Modifier.isPublic(makers[0].getModifiers()) && makers[0].getParameterCount() == 0, "rule 1: one public constructor");
    require(ButterflyCode.NONE == -1, "NONE is -1");
  }

  private static void hidden(Member m) {
    boolean ofFace = Modifier.isPublic(m.getModifiers()) && (m instanceof Method || m.getName().equals("NONE"));
    require(ofFace || Modifier.isPrivate(m.getModifiers()), "rule 1: " + m.getName() + " is not private");
  }

  private static void classRules(Class<?> c) {
    if (c != ButterflyCode.class) {
      require(Modifier.isStatic(c.getModifiers()), "rule 2: " + c.getName() + " is static");
      require(!Modifier.isPublic(c.getModifiers()) && !Modifier.isProtected(c.getModifiers()), "rule 1: " + c.getName() + " is hidden");
    }
    int fields = 0;
    for (Field f : c.getDeclaredFields()) {
      if (!Modifier.isStatic(f.getModifiers())) fields++;
      else require(Modifier.isFinal(f.getModifiers()), "rule 5: " + c.getName() + "." + f.getName() + " is final");
      Class<?> t = f.getType();
      boolean known = t.isPrimitive() || t.isArray() || t == String.class || t.getName().startsWith("ButterflyCode");
      require(known, "rule 3: type of " + c.getName() + "." + f.getName());
    }
    require(fields <= 20, "rule 11: " + c.getName() + " has " + fields + " fields");
    for (Method m : c.getDeclaredMethods()) {
      require(m.getParameterCount() <= 7, "rule 11: parameters of " + m.getName());
      boolean ofFace = c == ButterflyCode.class && Modifier.isPublic(m.getModifiers());
      for (String f : FACE) require(ofFace || !f.contains(" " + m.getName() + "("), "rule 1: " + c.getName() + "." + m.getName() + " bears a public name");
    }
  }

  private static void signs(String source) {
    for (char ch : source.toCharArray()) require(ch < 128, "rule 4: signs of the text are 1 to 127");
  }
}
