import java.io.IOException;
import java.nio.file.Files;
import java.nio.file.Path;
import java.util.Set;
import java.util.TreeSet;
import java.util.regex.Matcher;
import java.util.regex.Pattern;

/**
 * Rule 4 of ../shared/LANGUAGE.md: what the program uses of the library. The rule lists static functions and no
 * constants (such as Long.MIN_VALUE), so none is here. A new member is weighed, then added.
 */
public final class LibraryTest {
    private static final Check CHECK = new Check();

    private static final Set<String> WEIGHED = Set.of("Integer.rotateLeft", "Long.bitCount", "Long.compareUnsigned",
        "Long.numberOfLeadingZeros", "Long.numberOfTrailingZeros", "Long.rotateLeft", "Math.max", "Math.multiplyHigh");

    public static void main(String[] args) throws IOException {
        String program = Files.readString(Path.of("src/main/java/BitArithmetic.java"));
        Set<String> members = new TreeSet<>();
        Matcher member = Pattern.compile("\\b(?:Integer|Long|Math|StrictMath|Float|Double|Arrays|System|List|Objects)"
            + "\\s*\\.\\s*\\w+").matcher(program);
        while (member.find()) {
            members.add(member.group().replaceAll("\\s", ""));
        }
        for (String name : members) {
            CHECK.same("uses " + name, WEIGHED.contains(name) ? "weighed" : "not weighed", "weighed");
        }
        CHECK.same("imports", Pattern.compile("\\bimport\\b").matcher(program).find() ? "some" : "none", "none");
        CHECK.end();
    }
}
