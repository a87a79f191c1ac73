import java.io.IOException;
import java.lang.reflect.Method;
import java.lang.reflect.Modifier;
import java.nio.charset.StandardCharsets;
import java.nio.file.DirectoryStream;
import java.nio.file.Files;
import java.nio.file.Path;
import java.util.ArrayList;
import java.util.Comparator;
import java.util.List;
import java.util.regex.Matcher;
import java.util.regex.Pattern;
import java.util.stream.Stream;

/** README.md followed by its own words, in a folder that has only the project and the folder shared: run from the project's folder. */
public final class ReadmeTest {
  private static final String EVERY_TEST = ".ci/run";

  /** What stands between two fences, and the word behind the first of them. */
  private record Block(String sort, String lines) { }

  public static void main(String[] args) throws Exception {
    String page = Files.readString(Path.of("README.md"), StandardCharsets.UTF_8);
    callsAreNamed(page);
    testsAreNamed(page);
    filesAreThere(page);
    List<Block> blocks = blocks(page);
    Path room = Files.createTempDirectory("readme");
    try {
      follow(blocks, newProject(room), room.resolve("printed"));
    } finally {
      remove(room);
    }
    Due.end();
  }

  private static List<Block> blocks(String page) {
    List<Block> blocks = new ArrayList<>();
    Matcher fence = Pattern.compile("^```(\\w+)\n(.*?)^```$", Pattern.MULTILINE | Pattern.DOTALL).matcher(page);
    while (fence.find()) blocks.add(new Block(fence.group(1), fence.group(2)));
    return blocks;
  }

  private static void callsAreNamed(String page) {
    for (Method call : CardsGone.class.getDeclaredMethods()) {
      if (Modifier.isPublic(call.getModifiers())) Due.isSo(call.getName() + "() is named", page.contains("`" + call.getName() + "`"));
    }
  }

  private static void testsAreNamed(String page) throws IOException {
    try (DirectoryStream<Path> tests = Files.newDirectoryStream(Path.of("src/test/java"), "*Test.java")) {
      for (Path test : tests) {
        String name = test.getFileName().toString().replace(".java", "");
        Due.isSo(name + " is named", page.contains("`" + name + "`"));
      }
    }
  }

  /** Each file and folder that the page names by its way from the project's folder. */
  private static void filesAreThere(String page) {
    int many = 0;
    Matcher named = Pattern.compile("(?:\\.\\./shared|src|\\.ci)/[\\w./]*\\w").matcher(page);
    while (named.find()) {
      many++;
      Due.isSo(named.group() + " is there", Files.exists(Path.of(named.group())));
    }
    Due.isSo("files are named", many > 10);
    Due.isSo(EVERY_TEST + " can be run", Files.isExecutable(Path.of(EVERY_TEST)));
  }

  /** The project's folder anew with shared beside it, both elsewhere. */
  private static Path newProject(Path room) throws IOException {
    Path project = Files.createDirectory(room.resolve("project"));
    Files.createSymbolicLink(room.resolve("shared"), Path.of("../shared").toRealPath());
    try (Stream<Path> all = Files.walk(Path.of("src"))) {
      for (Path one : (Iterable<Path>) all::iterator) Files.copy(one, project.resolve(one.toString()));
    }
    return project;
  }

  /** The program is saved by its class's name; commands end with 0, and print what the page says behind them. */
  private static void follow(List<Block> blocks, Path project, Path printed) throws Exception {
    int programs = 0, commands = 0, answers = 0, allTests = 0;
    for (int i = 0; i < blocks.size(); i++) {
      Block block = blocks.get(i);
      if (block.sort().equals("java")) {
        programs++;
        Matcher name = Pattern.compile("public final class (\\w+)").matcher(block.lines());
        Due.isSo("a program has a name", name.find());
        Files.writeString(project.resolve(name.group(1) + ".java"), block.lines(), StandardCharsets.UTF_8);
      } else if (block.sort().equals("sh") && block.lines().trim().equals(EVERY_TEST)) {
        allTests++; // this test is run by it
      } else if (block.sort().equals("sh")) {
        commands++;
        Due.due(block.lines(), run(block.lines(), project, printed), 0);
        boolean isTold = i + 1 < blocks.size() && blocks.get(i + 1).sort().equals("text");
        if (!isTold) continue;
        answers++;
        prints(printed, blocks.get(i + 1).lines());
      } else Due.isSo("a " + block.sort() + " is what commands print", block.sort().equals("text"));
    }
    Due.isSo("there are a program, commands, what they print, all tests", programs > 0 && commands > 2 && answers > 0 && allTests == 1);
  }

  private static int run(String commands, Path project, Path printed) throws Exception {
    ProcessBuilder shell = new ProcessBuilder("bash", "-e", "-c", commands).directory(project.toFile());
    shell.redirectErrorStream(true).redirectOutput(printed.toFile());
    int code = shell.start().waitFor();
    if (code != 0) System.out.println(Files.readString(printed, StandardCharsets.UTF_8));
    return code;
  }

  private static void prints(Path printed, String told) throws IOException {
    List<String> got = Files.readAllLines(printed, StandardCharsets.UTF_8), due = told.lines().toList();
    Due.due("lines that are printed", got.size(), due.size());
    for (int i = 0; i < got.size() && i < due.size(); i++) {
      if (!got.get(i).equals(due.get(i))) System.out.println("the page has " + due.get(i) + ", printed is " + got.get(i));
      Due.isSo("line " + (i + 1) + " as the page has it", got.get(i).equals(due.get(i)));
    }
  }

  private static void remove(Path room) throws IOException {
    try (Stream<Path> all = Files.walk(room)) {
      for (Path one : (Iterable<Path>) all.sorted(Comparator.reverseOrder())::iterator) Files.delete(one);
    }
  }
}
