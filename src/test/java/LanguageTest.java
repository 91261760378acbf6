import java.io.IOException;
import java.lang.reflect.Constructor;
import java.lang.reflect.Field;
import java.lang.reflect.Method;
import java.lang.reflect.Modifier;
import java.nio.file.Files;
import java.nio.file.Path;
import java.util.ArrayList;
import java.util.Arrays;
import java.util.HashSet;
import java.util.List;
import java.util.Set;
import java.util.TreeSet;
import java.util.regex.Matcher;
import java.util.regex.Pattern;

/** The rules of ../shared/LANGUAGE.md that can be seen from the source's words and from the class itself. */
public final class LanguageTest {
  private static final Path SOURCE = Path.of("src/main/java/MarginTables.java");
  private static final Path DOCUMENT = Path.of("../shared/DOC.md");
  private static final int MOST_CLASSES = 12;
  private static final int MOST_FIELDS = 20;
  private static final int MOST_PARAMETERS = 7;
  private static final int MOST_LINES = 60;

  private static final Set<String> FACE = new TreeSet<>(Arrays.asList(
      "int write(int)", "int wipe()", "int fault()", "int lay()", "int set(int, int, int, int)",
      "int move(int, int, int)", "int turn(int)", "int undo()", "int column(int, int, int)",
      "int stratum(int, int)", "long ways(int, int)", "long chance(int, int, int)", "long joined(int, int)",
      "int strange(int, int)", "long node(int, int, int, int)", "int looks(int, int)",
      "int table(int, int, int)", "int rank(int)", "int likeliest(int, int)", "int count(int)"));

  private static final String[] FORBIDDEN = {"\\bthrow\\b", "\\btry\\b", "\\bcatch\\b", "\\bsynchronized\\b",
    "\\bassert\\b", "->", "::", "\\bequals\\b", "\\bhashCode\\b", "\\btoString\\b", "Exact\\b", "\\bvar\\b",
    "\\bSystem\\.(?!arraycopy\\b)", "\\bfloat\\b", "\\bdouble\\b", "\\bObject\\b",
    "\\bpackage\\b", "\\bstatic \\{", "\\[\\]\\[\\]\\[\\]", "[^\\x00-\\x7f]", "\\bThread\\b", "\\bnative\\b"};

  private static int wrong = 0;

  private static void fault(String text) {
    wrong++;
    System.out.println(text);
  }

  private static String withoutComments(String source) {
    return source.replaceAll("(?s)/\\*.*?\\*/", "").replaceAll("//[^\n]*", "");
  }

  private static void checkWords(String source) {
    for (String word : FORBIDDEN) {
      Matcher matcher = Pattern.compile(word).matcher(source);
      if (matcher.find()) {
        fault("the source holds " + matcher.group());
      }
    }
    Matcher imports = Pattern.compile("(?m)^import (.*);$").matcher(source);
    while (imports.find()) {
      if (!List.of("java.util.Arrays", "java.util.ArrayList", "java.util.List").contains(imports.group(1))) {
        fault("the source imports " + imports.group(1));
      }
    }
  }

  /** The source's public lines are those of the document's face, in its order, word by word, as are the promises'. */
  private static void checkPublicLines(List<String> lines) throws IOException {
    List<String> due = new ArrayList<>();
    List<String> promised = new ArrayList<>();
    boolean isFace = false;
    for (String line : Files.readAllLines(DOCUMENT)) {
      isFace = line.startsWith("## ") ? line.equals("## The public face") : isFace;
      if (isFace && line.trim().startsWith("public ")) {
        due.add(line.trim().replaceAll("\\);$", ") {"));
      }
      if (line.matches("`[^`]*\\)`: .*")) {
        promised.add("public " + line.substring(1, line.indexOf("`:")) + " {");
      }
    }
    if (promised.size() != 21 || !due.containsAll(promised)) {
      fault("the document promises " + promised);
    }
    List<String> found = new ArrayList<>();
    for (String line : lines) {
      if (line.trim().startsWith("public ")) {
        found.add(line.trim());
      }
    }
    if (due.size() != FACE.size() + 3) {
      fault("the document's face has " + due.size() + " lines");
    }
    for (String line : due) {
      if (!found.contains(line)) {
        fault("the document's face has the line " + line);
      }
    }
    if (!found.equals(due)) {
      fault("the public lines are " + found);
    }
  }

  /** What the document's interface says ahead of its calls stands ahead of them in the source too. */
  private static void checkHeads(List<String> lines) throws IOException {
    Pattern head = Pattern.compile("Ahead of the calls (.*) the interface says: (---- .*)\\.");
    int at = 0;
    int heads = 0;
    for (String sentence : Files.readAllLines(DOCUMENT)) {
      Matcher matcher = head.matcher(sentence);
      if (matcher.matches()) {
        heads++;
        at = lineBehind(lines, at, "  // " + matcher.group(2), sentence);
        for (String call : matcher.group(1).split(", ")) {
          at = lineBehind(lines, at, "  public .* " + call.replace("`", "") + "\\(.*", sentence);
        }
      }
    }
    if (heads != 6) {
      fault("the document has " + heads + " heads");
    }
  }

  private static int lineBehind(List<String> lines, int from, String pattern, String sentence) {
    for (int i = from; i < lines.size(); i++) {
      if (lines.get(i).matches(pattern)) {
        return i + 1;
      }
    }
    fault("not where it is due by \"" + sentence + "\": " + pattern);
    return from;
  }

  private static void checkFace() {
    Class<MarginTables> face = MarginTables.class;
    if (!Modifier.isPublic(face.getModifiers()) || !Modifier.isFinal(face.getModifiers())) {
      fault("the class is not public and final");
    }
    Set<String> methods = new TreeSet<>();
    Set<String> names = new HashSet<>();
    for (Method method : face.getDeclaredMethods()) {
      if (!Modifier.isPrivate(method.getModifiers())) {
        String parameters = Arrays.toString(method.getParameterTypes()).replace("[", "").replace("]", "");
        methods.add(method.getReturnType() + " " + method.getName() + "(" + parameters + ")");
        names.add(method.getName());
      }
    }
    if (!methods.equals(FACE)) {
      fault("the face's methods are " + methods);
    }
    for (Field field : face.getDeclaredFields()) {
      boolean isConstant = Arrays.asList("BAD", "NO", "FULL", "NONE").contains(field.getName());
      int modifiers = field.getModifiers();
      if (Modifier.isPublic(modifiers) != isConstant || Modifier.isPrivate(modifiers) == isConstant) {
        fault("the field " + field.getName() + " is open or shut wrongly");
      }
    }
    Constructor<?>[] constructors = face.getDeclaredConstructors();
    if (constructors.length != 1 || constructors[0].getParameterCount() != 0) {
      fault("the constructors are not the document's");
    }
    checkClass(face, new HashSet<>());
    for (Class<?> inside : face.getDeclaredClasses()) {
      int modifiers = inside.getModifiers();
      if (!Modifier.isStatic(modifiers) || Modifier.isPublic(modifiers) || Modifier.isProtected(modifiers)) {
        fault(inside + " is not a static class of its own");
      }
      checkClass(inside, names);
    }
    if (face.getDeclaredClasses().length >= MOST_CLASSES) {
      fault("there are too many classes");
    }
  }

  private static void checkClass(Class<?> type, Set<String> publicNames) {
    int fields = 0;
    for (Field field : type.getDeclaredFields()) {
      int modifiers = field.getModifiers();
      if (!Modifier.isStatic(modifiers)) {
        fields++;
      } else if (!Modifier.isFinal(modifiers)) {
        fault(type + " has the static field " + field.getName());
      }
    }
    if (fields > MOST_FIELDS) {
      fault(type + " has too many fields");
    }
    for (Method method : type.getDeclaredMethods()) {
      if (method.isSynthetic() || method.getParameterCount() > MOST_PARAMETERS) {
        fault(method + " is made by the compiler or has too many parameters");
      }
      if (Modifier.isPrivate(method.getModifiers()) && publicNames.contains(method.getName())) {
        fault(method + " bears the name of a public method");
      }
    }
  }

  private static void checkLengths(List<String> lines) {
    int start = -1;
    String indent = "";
    for (int i = 0; i < lines.size(); i++) {
      Matcher opens = Pattern.compile("^( {2}| {4})(?! )[^=]*\\) \\{$").matcher(lines.get(i));
      if (start < 0 && opens.matches()) {
        start = i;
        indent = opens.group(1);
      } else if (start >= 0 && lines.get(i).equals(indent + "}")) {
        if (i - start + 1 > MOST_LINES) {
          fault("the method at line " + (start + 1) + " has " + (i - start + 1) + " lines");
        }
        start = -1;
      }
    }
  }

  public static void main(String[] args) throws IOException {
    List<String> lines = Files.readAllLines(SOURCE);
    checkWords(withoutComments(String.join("\n", lines)));
    checkFace();
    checkPublicLines(lines);
    checkHeads(lines);
    checkLengths(lines);
    System.out.println(wrong == 0 ? "the rules are kept" : wrong + " rules are not kept");
    if (wrong != 0) {
      System.exit(1);
    }
  }
}
