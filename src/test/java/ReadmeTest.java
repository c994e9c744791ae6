import java.io.ByteArrayOutputStream;
import java.io.IOException;
import java.io.PrintStream;
import java.lang.reflect.InvocationTargetException;
import java.net.URL;
import java.net.URLClassLoader;
import java.nio.charset.StandardCharsets;
import java.nio.file.Files;
import java.nio.file.Path;
import java.util.List;
import javax.tools.ToolProvider;

/** The program that README.md shows compiles with the class, and prints what README.md says that it prints. */
public final class ReadmeTest {
  public static void main(String[] args) throws IOException, ReflectiveOperationException {
    List<String> readme = Files.readAllLines(Path.of("README.md"), StandardCharsets.UTF_8);
    String want = block(readme, "text");
    Due.is("README.md says what its program prints", want.isEmpty(), false);
    Path folder = Files.createTempDirectory("readme");
    Path source = folder.resolve("Example.java");
    Path compiled = folder.resolve("Example.class");
    try {
      Files.writeString(source, block(readme, "java"));
      Due.is("compiling the program in README.md", compile(source, folder), 0);
      if (Files.exists(compiled)) {
        String got = output(folder);
        Due.is("the program in README.md prints what it says, not:\n" + got, got.equals(want), true);
      }
    } finally {
      Files.deleteIfExists(compiled);
      Files.deleteIfExists(source);
      Files.delete(folder);
    }
    Due.end();
  }

  /** The lines of the first block of that language, each with its end. */
  private static String block(List<String> lines, String language) {
    StringBuilder text = new StringBuilder();
    int first = lines.indexOf("```" + language) + 1;
    for (int n = first; first > 0 && n < lines.size() && !lines.get(n).equals("```"); n++) {
      text.append(lines.get(n)).append('\n');
    }
    return text.toString();
  }

  private static int compile(Path source, Path folder) {
    return ToolProvider.getSystemJavaCompiler().run(null, null, null,
        "-cp", System.getProperty("java.class.path"), "-d", folder.toString(), source.toString());
  }

  private static String output(Path folder) throws IOException, ReflectiveOperationException {
    ByteArrayOutputStream bytes = new ByteArrayOutputStream();
    PrintStream screen = System.out;
    try (URLClassLoader loader = new URLClassLoader(new URL[] {folder.toUri().toURL()});
        PrintStream kept = new PrintStream(bytes, true, StandardCharsets.UTF_8)) {
      System.setOut(kept);
      loader.loadClass("Example").getMethod("main", String[].class).invoke(null, (Object) new String[0]);
    } catch (InvocationTargetException e) {
      screen.println("the program in README.md threw " + e.getCause());
    } finally {
      System.setOut(screen);
    }
    return bytes.toString(StandardCharsets.UTF_8).replace(System.lineSeparator(), "\n");
  }
}
