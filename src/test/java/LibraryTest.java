import java.io.IOException;
import java.nio.charset.StandardCharsets;
import java.nio.file.Files;
import java.nio.file.Path;
import java.util.Set;
import java.util.regex.Matcher;
import java.util.regex.Pattern;

/** Rule 4 of LANGUAGE.md: of the library's static functions the class uses only these. */
final class LibraryTest {
  private static final Set<String> ALLOWED = Set.of(
      "Integer.bitCount", "Integer.numberOfLeadingZeros", "Integer.numberOfTrailingZeros", "Integer.MAX_VALUE", "Integer.MIN_VALUE",
      "Long.compare", "Long.bitCount", "Long.numberOfLeadingZeros", "Long.numberOfTrailingZeros", "Long.MIN_VALUE",
      "Math.abs", "Math.max", "Math.min",
      "Arrays.copyOf", "Arrays.copyOfRange", "Arrays.fill", "System.arraycopy");
  private static final Pattern LIBRARY = Pattern.compile(
      "\\b(Boolean|Byte|Character|Short|Integer|Long|Float|Double|Math|StrictMath|Number|Object|Objects|String|Arrays|Collections|List|System)\\.(\\w+)");
  private static final Pattern RULED_OUT = Pattern.compile("\\b(throw|try|catch|synchronized|assert)\\b|->|::|\\bjava\\.(?!util\\.Arrays;)");

  public static void main(String[] args) throws IOException {
    String[] lines = Files.readString(Path.of("src/main/java/ModuleEngine.java"), StandardCharsets.UTF_8).split("\n");
    boolean isComment = false;
    for (int i = 0; i < lines.length; i++) {
      String line = lines[i].strip();
      if (line.startsWith("/**")) isComment = true;
      if (!isComment) look(i + 1, line.replaceAll("\"[^\"]*\"", "").replaceAll("//.*", ""));
      if (line.endsWith("*/")) isComment = false;
    }
    Due.end();
  }

  private static void look(int number, String line) {
    Matcher library = LIBRARY.matcher(line);
    while (library.find()) Due.is("line " + number + ": " + library.group(), ALLOWED.contains(library.group()), true);
    Due.is("line " + number + ": a word that is ruled out", RULED_OUT.matcher(line).find(), false);
  }
}
