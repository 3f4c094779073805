import java.io.IOException;
import java.lang.management.ManagementFactory;
import java.lang.reflect.Field;
import java.lang.reflect.Method;
import java.lang.reflect.Modifier;
import java.nio.charset.StandardCharsets;
import java.nio.file.Files;
import java.nio.file.Path;
import java.util.Set;
import java.util.TreeSet;
import java.util.regex.Matcher;
import java.util.regex.Pattern;

/** The public face, the rules of LANGUAGE.md that a glance can tell, and how much a run makes. */
public final class FaceTest {
  private static final Path SOURCE = Path.of("src/main/java/TwoHousesOneChild.java");
  private static final String[] FACE = {"write(int,long)", "wipe()", "fault()", "paper()", "year(int)", "whose(int)",
    "words(int)", "says(int,int)", "nights(int)", "night(int,int)", "mend()", "changes()", "put(int,int)", "at(int)",
    "judge()", "counts(int)", "wish(int,int,int)", "want(int,int,int)", "unwant()", "cost()", "best()", "bestAt(int)",
    "take()", "near(int)", "brief(int)", "swap(int,int)", "owed(int)", "even()", "wedding(int,int)", "late(int,int)",
    "fines(int,boolean)", "move(int)", "then(int)", "together(int,boolean)", "years()", "keep(int)", "again(int)",
    "count(int)"};
  private static final String[] CONSTANTS = {"UNKNOWN", "OUTSIDE", "STATE", "FULL", "NONE"};
  private static final String BANNED = "\\b(throw|throws|try|catch|finally|synchronized|assert|import|package|protected"
      + "|volatile|native|static\\s*\\{|\\w+Exact)\\b|->|::|new\\s+\\w+\\([^()]*\\)\\s*\\{";
  /** What a row holds has to be looked at before it is used as an index (rule 7). */
  private static final String ROW_IN_ROW = "\\w\\[[^\\]]*\\[";
  private static int wrong = 0;

  private static void due(String what, Object got, Object want) {
    if (!want.equals(got)) {
      wrong++;
      System.out.println(what + " is " + got + ", due is " + want);
    }
  }

  private static String signature(Method m) {
    StringBuilder s = new StringBuilder(m.getName()).append('(');
    for (Class<?> type : m.getParameterTypes()) s.append(s.charAt(s.length() - 1) == '(' ? "" : ",").append(type.getName());
    return s.append(')').toString();
  }

  private static void methods() {
    Set<String> seen = new TreeSet<>(), names = new TreeSet<>();
    for (Method m : TwoHousesOneChild.class.getDeclaredMethods()) {
      if (Modifier.isPrivate(m.getModifiers())) continue;
      seen.add(signature(m));
      names.add(m.getName());
      due(m.getName() + " is public", Modifier.isPublic(m.getModifiers()), true);
      due("what " + m.getName() + " answers", m.getReturnType(), int.class);
    }
    due("the methods", seen, new TreeSet<>(Set.of(FACE)));
    for (Method m : TwoHousesOneChild.class.getDeclaredMethods())
      if (Modifier.isPrivate(m.getModifiers())) due("a private " + m.getName(), names.contains(m.getName()), false);
    due("constructors", TwoHousesOneChild.class.getDeclaredConstructors().length, 1);
    due("the class is public and final", TwoHousesOneChild.class.getModifiers(), Modifier.PUBLIC | Modifier.FINAL);
  }

  private static void fieldsOf(Class<?> type) {
    for (Field f : type.getDeclaredFields())
      if (Modifier.isStatic(f.getModifiers())) due("final: " + f, Modifier.isFinal(f.getModifiers()), true);
    for (Class<?> inside : type.getDeclaredClasses()) {
      due("static: " + inside, Modifier.isStatic(inside.getModifiers()), true);
      fieldsOf(inside);
    }
  }

  private static void fields() {
    Set<String> seen = new TreeSet<>();
    for (Field f : TwoHousesOneChild.class.getDeclaredFields())
      if (!Modifier.isPrivate(f.getModifiers())) seen.add(f.getName());
    due("the constants", seen, new TreeSet<>(Set.of(CONSTANTS)));
    fieldsOf(TwoHousesOneChild.class);
  }

  private static void words() throws IOException {
    String source = Files.readString(SOURCE, StandardCharsets.ISO_8859_1);
    String code = source.replaceAll("(?s)/\\*.*?\\*/", " ").replaceAll("//[^\n]*", " ");
    Matcher banned = Pattern.compile(BANNED + "|" + ROW_IN_ROW).matcher(code);
    while (banned.find()) due("in the source", banned.group(), "nothing that LANGUAGE.md leaves out");
    for (int i = 0; i < source.length(); i++) due("sign " + i + " of the source is plain", source.charAt(i) < 128, true);
  }

  /** The dearest calls, 512 of them: what they make has to stay far below the room of one run. */
  private static void room() {
    com.sun.management.ThreadMXBean threads = (com.sun.management.ThreadMXBean) ManagementFactory.getThreadMXBean();
    long before = threads.getThreadAllocatedBytes(Thread.currentThread().getId());
    TwoHousesOneChild x = new TwoHousesOneChild();
    for (int i = 0; i < 10; i++) x.write(3, 'E' << 16 | '0' << 8 | '0' + i % 2);
    x.paper();
    x.wish(14, 9, 9);
    for (int i = 0; i < 50; i++) {
      x.mend();
      x.changes();
      x.take();
      x.then(i);
      x.wedding(i, 1);
      x.even();
      x.brief(0);
      x.keep(i % 2);
      x.again(i % 2);
      x.together(i % 2, true);
    }
    long made = threads.getThreadAllocatedBytes(Thread.currentThread().getId()) - before;
    due("what 512 calls make is less than 100,000 bytes", made < 100000, true);
  }

  public static void main(String[] args) throws IOException {
    methods();
    fields();
    words();
    room();
    System.out.println(wrong == 0 ? "the face is as due" : wrong + " things are not as due");
    if (wrong != 0) System.exit(1);
  }
}
