import java.io.IOException;
import java.nio.file.Files;
import java.nio.file.Path;
import java.util.List;
import java.util.Map;
import java.util.TreeMap;
import java.util.regex.Matcher;
import java.util.regex.Pattern;

/** README.md: what its example says that calls answer, and that its tables name every operation once, by its kinds. */
public final class ReadmeTest {
    private static final Check CHECK = new Check();

    private static final Pattern EXAMPLE = Pattern.compile("x\\.(\\w+)\\((.*)\\); +// (throws \\w+|-?\\w+).*");
    private static final Pattern NUMBER = Pattern.compile("\\b[4-9ab][0-9a-f]\\b");

    public static void main(String[] args) throws IOException {
        List<String> lines = Files.readAllLines(Path.of("README.md"));
        example(lines);
        tables(lines);
        CHECK.end();
    }

    private static void example(List<String> lines) {
        BitArithmetic x = new BitArithmetic();
        int seen = 0;
        for (String line : lines) {
            Matcher call = EXAMPLE.matcher(line);
            if (call.matches()) {
                seen++;
                CHECK.same(line, answer(x, call.group(1), numbers(call.group(2))), due(call.group(3)));
            }
        }
        CHECK.same("lines of the example", seen, 12);
    }

    private static String answer(BitArithmetic x, String name, long[] numbers) {
        switch (name) {
            case "run": return Check.run(x, (int) numbers[0], numbers[1], numbers[2]);
            case "next": return Check.next(x, (int) numbers[0], numbers[1]);
            case "into": return Check.into(x, (int) numbers[0], numbers[1]);
            case "latest": return Check.hex(x.latest());
            default: return Check.hex(x.kind((int) numbers[0], (int) numbers[1]));
        }
    }

    private static long[] numbers(String text) {
        if (text.isEmpty()) {
            return new long[0];
        }
        String[] parts = text.replace("L", "").split(", ");
        long[] numbers = new long[parts.length];
        for (int i = 0; i < parts.length; i++) {
            numbers[i] = Long.decode(parts[i]);
        }
        return numbers;
    }

    private static String due(String text) {
        return text.startsWith("throws ") ? text.replace(' ', '.') : Check.hex(Long.decode(text));
    }

    private static void tables(List<String> lines) {
        Map<Integer, Integer> named = new TreeMap<>();
        int kindOf32 = BitArithmetic.NONE;
        for (String line : lines) {
            if (line.endsWith("| whole numbers |")) {
                kindOf32 = 0;
            } else if (line.endsWith("| floats |")) {
                kindOf32 = 2;
            } else if (line.startsWith("| whole ") || line.startsWith("| float ")) {
                conversions(line, named);
            } else if (line.startsWith("| ") && NUMBER.matcher(line.substring(2, 4)).matches()) {
                twins(line, kindOf32, named);
            }
        }
        for (int operation = 0x45; operation <= 0xbf; operation++) {
            CHECK.same("how often " + Integer.toHexString(operation) + " is named", named.getOrDefault(operation, 0), 1);
        }
        CHECK.same("how many are named", named.size(), 0xbf - 0x45 + 1);
    }

    /** An operation and its twin have the same place in their columns. */
    private static void twins(String line, int kindOf32, Map<Integer, Integer> named) {
        String[] cells = line.split("\\|");
        List<Integer> of32 = operations(cells[1], named);
        List<Integer> of64 = operations(cells[2], named);
        CHECK.same(line, of32.size(), of64.size());
        for (int i = 0; i < Math.min(of32.size(), of64.size()); i++) {
            kind(of32.get(i), 1, kindOf32);
            kind(of64.get(i), 1, kindOf32 + 1);
            boolean alone = new BitArithmetic().kind(of32.get(i), 2) == BitArithmetic.NONE;
            kind(of64.get(i), 2, alone ? BitArithmetic.NONE : kindOf32 + 1);
        }
    }

    /** The rows and the columns, from the second on, are in the order of the kinds. */
    private static void conversions(String line, Map<Integer, Integer> named) {
        String[] cells = line.split("\\|");
        int from = List.of("whole 32", "whole 64", "float 32", "float 64").indexOf(cells[1].trim());
        for (int to = 0; to < 4; to++) {
            for (int operation : operations(cells[to + 2], named)) {
                kind(operation, 0, to);
                kind(operation, 1, from);
            }
        }
    }

    private static List<Integer> operations(String cell, Map<Integer, Integer> named) {
        List<Integer> operations = NUMBER.matcher(cell).results().map(found -> Integer.parseInt(found.group(), 16)).toList();
        for (int operation : operations) {
            named.merge(operation, 1, Integer::sum);
        }
        return operations;
    }

    private static void kind(int operation, int which, int due) {
        CHECK.same("kind(" + Integer.toHexString(operation) + ", " + which + ")",
            new BitArithmetic().kind(operation, which), due);
    }
}
