import java.lang.reflect.Constructor;
import java.lang.reflect.Field;
import java.lang.reflect.Method;
import java.lang.reflect.Modifier;
import java.nio.file.Files;
import java.nio.file.Path;
import java.util.Set;
import java.util.TreeSet;
import java.util.regex.Matcher;
import java.util.regex.Pattern;

// The face is the document's and no more, and the source keeps to the rules that can be seen in its words.
public final class FaceTest {
  private static final String[] METHODS = {
    "int type(int)", "int clear()", "int house()", "int path(int,int)", "int director(int,int)", "int child(int,int)",
    "int goes(int,int)", "int rests(int)", "int offends(int,int,int)", "int shifts(int,int)", "int calls(int)", "int undo()",
    "int now(int)", "int way(int,int,int)", "int edge(int,int)", "int spread(int)", "int pair(int)", "int odds(int,int,int)",
    "int hears(int,int)", "int forget()", "int who()", "int ask()", "int mark(int,int)", "int keep(int)", "int back(int)",
    "int count(int)", "long trace()"};
  private static final String[] CONSTANTS = {"BAD", "STATE", "FULL", "NONE", "NO"};
  private static final String FORBIDDEN =
    "\\b(throw|throws|try|catch|synchronized|assert|import|package|Object|hashCode|System|Thread|\\w+Exact|\\w*Exception)\\b|->|::|\"";

  private static int wrong = 0;

  private static void same(String what, Set<String> got, String[] want) {
    Set<String> due = new TreeSet<>(Set.of(want));
    if (!got.equals(due)) {
      wrong++;
      System.out.println(what + " are " + got + ", due are " + due);
    }
  }

  private static void face() {
    Set<String> methods = new TreeSet<>(), fields = new TreeSet<>(), constructors = new TreeSet<>();
    Set<String> publicNames = new TreeSet<>(), privateNames = new TreeSet<>();
    for (Method m : BoardStones.class.getDeclaredMethods()) {
      boolean hidden = Modifier.isPrivate(m.getModifiers());
      (hidden ? privateNames : publicNames).add(m.getName());
      String shape = m.toString();
      if (!hidden) methods.add(shape.replaceFirst("^public ", "").replace("BoardStones.", ""));
    }
    for (Field f : BoardStones.class.getDeclaredFields()) {
      if (!Modifier.isPrivate(f.getModifiers())) fields.add(f.getName());
      if (Modifier.isStatic(f.getModifiers()) && !Modifier.isFinal(f.getModifiers())) fields.add("static state " + f.getName());
    }
    for (Constructor<?> c : BoardStones.class.getDeclaredConstructors()) constructors.add(c.toString());
    same("methods", methods, METHODS);
    same("constants", fields, CONSTANTS);
    same("constructors", constructors, new String[] {"public BoardStones()"});
    privateNames.retainAll(publicNames);
    same("names both private and public", privateNames, new String[0]);
    Set<String> open = new TreeSet<>();
    for (Class<?> c : BoardStones.class.getDeclaredClasses()) if (!Modifier.isStatic(c.getModifiers())) open.add(c.getName());
    same("classes inside that are not static", open, new String[0]);
    int kind = BoardStones.class.getModifiers();
    if (!Modifier.isPublic(kind) || !Modifier.isFinal(kind)) same("class", Set.of("open"), new String[] {"public final"});
  }

  private static void words(String file) throws Exception {
    String source = Files.readString(Path.of(file)).replaceAll("(?s)/\\*.*?\\*/", "").replaceAll("//[^\n]*", "");
    Set<String> found = new TreeSet<>();
    Matcher m = Pattern.compile(FORBIDDEN).matcher(source);
    while (m.find()) found.add(m.group());
    same("words that the program does without", found, new String[0]);
  }

  public static void main(String[] args) throws Exception {
    face();
    words(args.length > 0 ? args[0] : "src/main/java/BoardStones.java");
    System.out.println(wrong == 0 ? "the face is as due" : wrong + " things are not as due");
    if (wrong != 0) System.exit(1);
  }
}
