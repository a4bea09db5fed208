import java.io.IOException;
import java.lang.reflect.Field;
import java.lang.reflect.Modifier;
import java.nio.file.Files;
import java.nio.file.Path;
import java.util.ArrayList;
import java.util.List;
import java.util.Set;
import java.util.regex.Matcher;
import java.util.regex.Pattern;

/** What can be counted or looked up of LANGUAGE.md's rules; a rule's number begins each check. */
public final class LanguageTests {
  private static final int LONGEST_METHOD = 60;
  private static final int MOST_PARAMETERS = 7;
  private static final int MOST_CLASSES = 12;
  private static final int MOST_FIELDS = 20;

  private static final Pattern METHOD = Pattern.compile(
      "(?m)^( +)(?!.*\\bnew\\b)(?:[\\w\\[\\]]+ )*(\\w+)\\(([^)]*)\\)(?: throws [\\w, ]+)? \\{$");
  private static final Pattern CLASS = Pattern.compile("(?m)^ *(?:\\w+ )*(?:class|record|enum|interface) (\\w+).*\\{$");
  private static final Pattern LIBRARY_CALL = Pattern.compile("\\b([A-Z][a-z]\\w*)\\.(\\w+)");
  private static final Pattern THROW = Pattern.compile("\\bthrow\\b[^;]*;");
  private static final Pattern CATCH = Pattern.compile("\\bcatch\\b \\((\\w+) (\\w+)\\)");

  private static final String[] NEVER = {"->", "::", "@", "\\bfinally\\b", "\\bsynchronized\\b", "\\bassert\\b",
      "\\bstatic \\{", "\\bequals\\b", "\\bhashCode\\b", "\\btoString\\b", "\\bgetMessage\\b", "\\btry \\(",
      "\\bextends \\w*Exception\\b", "\\bpackage\\b", "\\bvolatile\\b", "\\bnative\\b", "\\bObject\\b", "\\bvar\\b",
      "\\bdouble\\b", "\\bfloat\\b", "\\bprotected\\b", "\\d\\.\\d", "while \\(true\\)", "for \\(;;\\)"};

  private static final Set<String> IMPORTS = Set.of("java.util.Arrays", "java.util.ArrayList", "java.util.List",
      "java.util.Iterator", "java.util.NoSuchElementException");

  private static final Set<String> CALLS = Set.of("System.arraycopy", "Arrays.fill", "Arrays.copyOf",
      "Arrays.copyOfRange", "Integer.bitCount", "Integer.compare", "Math.max", "Math.min", "Math.abs",
      "Math.floorDiv", "Math.floorMod");

  private static final Set<String> THROWN = Set.of("IllegalStateException", "IllegalArgumentException",
      "IndexOutOfBoundsException", "ArithmeticException", "UnsupportedOperationException",
      "NoSuchElementException", "RuntimeException");

  // Of these only the machine's own are thrown by themselves; the program must throw what it catches.
  private static final Set<String> CAUGHT = Set.of("IllegalStateException", "IllegalArgumentException",
      "UnsupportedOperationException", "NoSuchElementException");

  public static void main(String[] args) throws IOException {
    String source = Files.readString(Path.of("src/main/java/NightBook.java"));
    String code = withoutComments(source);
    String bare = code.replaceAll("\"[^\"\n]*\"", "\"\"");
    signs(source);
    never(bare);
    imports(bare);
    libraryCalls(bare);
    exceptions(code);
    classes(bare);
    methods(bare);
    fields();
    Due.end("LanguageTests");
  }

  /** The lines stay, so that a method's length can be counted. */
  private static String withoutComments(String source) {
    StringBuilder code = new StringBuilder();
    boolean inComment = false;
    for (String line : source.split("\n")) {
      String text = line.strip();
      inComment |= text.startsWith("/*");
      if (!inComment && !text.startsWith("//")) {
        code.append(line);
      }
      inComment &= !text.endsWith("*/");
      code.append('\n');
    }
    return code.toString();
  }

  private static void signs(String source) {
    Due.holds("3: signs 1 to 127", source.chars().allMatch(sign -> sign > 0 && sign < 128));
  }

  private static void never(String code) {
    for (String what : NEVER) {
      Matcher found = Pattern.compile(what).matcher(code);
      Due.holds("2, 3, 6, 9: there is no " + what, !found.find());
    }
    // A comment behind code would be read as code by these checks.
    Due.holds("comments have lines of their own", !code.contains("//") && !code.contains("/*"));
  }

  private static void imports(String code) {
    Matcher found = Pattern.compile("(?m)^import (.*);$").matcher(code);
    while (found.find()) {
      Due.holds("4: import " + found.group(1), IMPORTS.contains(found.group(1)));
    }
    Due.holds("4: nothing by its full name", !code.replaceAll("(?m)^import .*$", "").contains("java."));
  }

  private static void libraryCalls(String code) {
    Matcher found = LIBRARY_CALL.matcher(code.replaceAll("(?m)^import .*$", ""));
    while (found.find()) {
      Due.holds("4: " + found.group(), CALLS.contains(found.group()));
    }
  }

  private static void exceptions(String code) {
    Matcher found = THROW.matcher(code);
    while (found.find()) {
      Matcher form = Pattern.compile("throw new (\\w+)\\((\"[^\"]*\")?\\);").matcher(found.group());
      Due.holds("6: " + found.group(), form.matches() && THROWN.contains(form.group(1)));
    }
    Matcher caught = CATCH.matcher(code);
    int catches = 0;
    while (caught.find()) {
      catches++;
      Due.holds("6: " + caught.group(), CAUGHT.contains(caught.group(1)));
      Matcher use = Pattern.compile("\\b" + caught.group(2) + "\\b").matcher(code);
      int uses = 0;
      while (use.find()) {
        uses++;
      }
      Due.is("6: the caught " + caught.group(2) + " is left alone", uses, 1);
    }
    Due.is("6: each catch is of one class", catches, Pattern.compile("\\bcatch\\b").matcher(code).results().count());
  }

  private static void classes(String code) {
    Matcher found = CLASS.matcher(code);
    int number = 0;
    while (found.find()) {
      number++;
      Due.holds("1: " + found.group().strip(), number == 1
          ? found.group().equals("public final class NightBook {")
          : found.group().contains("static ") && !found.group().contains("public "));
    }
    Due.holds("11: " + number + " classes", number > 0 && number <= MOST_CLASSES);
  }

  private static void methods(String code) {
    Matcher found = METHOD.matcher(code);
    int number = 0;
    while (found.find()) {
      String name = found.group(2);
      if (Set.of("if", "for", "while", "switch", "catch").contains(name)) {
        continue;
      }
      number++;
      int end = code.indexOf("\n" + found.group(1) + "}\n", found.start());
      String body = code.substring(found.start(), Math.max(end, found.start()));
      long lines = body.lines().count() + 1;
      Due.holds("11: " + name + " has " + lines + " lines", end > 0 && lines <= LONGEST_METHOD);
      int parameters = found.group(3).isEmpty() ? 0 : found.group(3).split(",").length;
      Due.holds("11: " + name + " has " + parameters + " parameters", parameters <= MOST_PARAMETERS);
      Due.holds("6: " + name + " does not catch what it throws itself",
          !body.contains("try {") || !body.contains("throw new"));
      boolean constructor = Character.isUpperCase(name.charAt(0));
      Due.holds("6: no throw in the constructor " + name, !constructor || !body.contains("throw "));
    }
    Due.holds("the methods were found: " + number, number > 29);
  }

  private static void fields() {
    List<Class<?>> all = new ArrayList<>(List.of(NightBook.class.getDeclaredClasses()));
    all.add(NightBook.class);
    for (Class<?> one : all) {
      int own = 0;
      for (Field field : one.getDeclaredFields()) {
        boolean isStatic = Modifier.isStatic(field.getModifiers());
        own += isStatic ? 0 : 1;
        Due.holds("5: " + field + " is final", !isStatic || Modifier.isFinal(field.getModifiers()));
      }
      Due.holds("11: " + one.getName() + " has " + own + " fields", own <= MOST_FIELDS);
    }
  }
}
