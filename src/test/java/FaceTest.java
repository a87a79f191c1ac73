import java.lang.reflect.Constructor;
import java.lang.reflect.Field;
import java.lang.reflect.Method;
import java.lang.reflect.Modifier;
import java.nio.charset.StandardCharsets;
import java.nio.file.Files;
import java.nio.file.Path;
import java.util.Set;
import java.util.StringJoiner;
import java.util.TreeSet;
import java.util.regex.Matcher;
import java.util.regex.Pattern;

/** "The public face" and what "the interface says" ahead of its calls, read off ../shared/DOC.md: run from the project's folder. */
public final class FaceTest {
  private static final int CALLS = 39;

  public static void main(String[] args) throws Exception {
    String doc = Files.readString(Path.of("../shared/DOC.md"), StandardCharsets.UTF_8);
    String source = Files.readString(Path.of("src/main/java/CardsGone.java"), StandardCharsets.UTF_8);
    int from = doc.indexOf("```java", doc.indexOf("## The public face"));
    String face = doc.substring(from, doc.indexOf("```", from + 7));
    theClass();
    calls(face);
    constants(face);
    classesInside();
    headings(doc, source);
    promises(doc);
    Due.end();
  }

  private static void same(Set<String> got, Set<String> due) {
    for (String one : due) Due.isSo("the class has " + one, got.contains(one));
    for (String one : got) Due.isSo("the document has " + one, due.contains(one));
  }

  private static void theClass() {
    int modifiers = CardsGone.class.getModifiers();
    Due.isSo("public and final", Modifier.isPublic(modifiers) && Modifier.isFinal(modifiers));
    Due.isSo("of no other class", CardsGone.class.getSuperclass() == Object.class && CardsGone.class.getInterfaces().length == 0);
    Due.isSo("without a package", CardsGone.class.getPackageName().isEmpty());
  }

  /** Constructor and methods: all of the document's, as it writes their types, and no other that is not private. */
  private static void calls(String face) {
    Set<String> due = new TreeSet<>(), got = new TreeSet<>();
    Matcher told = Pattern.compile("public (?:(\\w+) )?(\\w+)\\(([^)]*)\\);").matcher(face);
    while (told.find()) {
      StringJoiner types = new StringJoiner(",");
      for (String one : told.group(3).split(", ")) if (!one.isEmpty()) types.add(one.substring(0, one.indexOf(' ')));
      due.add("public " + (told.group(1) == null ? "" : told.group(1) + " ") + told.group(2) + "(" + types + ")");
    }
    for (Constructor<?> one : CardsGone.class.getDeclaredConstructors()) if (isOpen(one.getModifiers())) got.add(one.toString());
    for (Method one : CardsGone.class.getDeclaredMethods()) {
      if (isOpen(one.getModifiers()) && !one.isSynthetic()) got.add(one.toString().replace("CardsGone.", ""));
    }
    same(got, due);
    Due.due("calls and the constructor", due.size(), CALLS + 1);
  }

  private static void constants(String face) throws IllegalAccessException {
    Set<String> due = new TreeSet<>(), got = new TreeSet<>();
    Matcher told = Pattern.compile("\\w+ = -?\\d+").matcher(face);
    while (told.find()) due.add(told.group());
    for (Field one : CardsGone.class.getDeclaredFields()) {
      if (!isOpen(one.getModifiers()) || one.isSynthetic()) continue;
      boolean isConstant = one.getModifiers() == (Modifier.PUBLIC | Modifier.STATIC | Modifier.FINAL) && one.getType() == int.class;
      got.add(isConstant ? one.getName() + " = " + one.getInt(null) : one.toString());
    }
    same(got, due);
  }

  private static void classesInside() {
    for (Class<?> inside : CardsGone.class.getDeclaredClasses()) {
      int modifiers = inside.getModifiers();
      boolean isHidden = !Modifier.isPublic(modifiers) && !Modifier.isProtected(modifiers);
      Due.isSo(inside.getSimpleName() + " is hidden and static", isHidden && Modifier.isStatic(modifiers));
    }
  }

  private static boolean isOpen(int modifiers) {
    return !Modifier.isPrivate(modifiers);
  }

  /** "Ahead of the calls .. the interface says: ---- .." */
  private static void headings(String doc, String source) {
    Set<String> due = new TreeSet<>(), got = new TreeSet<>();
    Matcher told = Pattern.compile("Ahead of the calls (.*) the interface says: (---- .*)\\.").matcher(doc);
    while (told.find()) {
      Matcher call = Pattern.compile("`(\\w+)`").matcher(told.group(1));
      while (call.find()) due.add(call.group(1) + "() below " + told.group(2));
    }
    String heading = "none";
    Matcher line = Pattern.compile("// (---- .*)|^  public (?:int|long) (\\w+)\\(", Pattern.MULTILINE).matcher(source);
    while (line.find()) {
      if (line.group(1) != null) heading = line.group(1);
      else got.add(line.group(2) + "() below " + heading);
    }
    same(got, due);
    Due.due("calls below a heading", due.size(), CALLS);
  }

  /** Each call of the face is promised by its own number, behind the new object's. */
  private static void promises(String doc) {
    int many = 0;
    Matcher told = Pattern.compile("## Promise (\\d+): (.*)\n\n`([^`]*)`").matcher(doc);
    while (told.find()) {
      many++;
      Due.due("promise", Integer.parseInt(told.group(1)), many);
      if (many == 1) continue;
      boolean isCall = false;
      for (Method one : CardsGone.class.getDeclaredMethods()) isCall |= isOpen(one.getModifiers()) && one.getName().equals(told.group(2));
      Due.isSo("promise " + many + " is of a call of the class", isCall && told.group(3).contains(" " + told.group(2) + "("));
    }
    Due.due("promises", many, CALLS + 1);
  }
}
