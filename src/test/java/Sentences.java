import java.io.IOException;
import java.nio.charset.StandardCharsets;
import java.nio.file.Files;
import java.nio.file.Path;
import java.util.LinkedHashMap;
import java.util.Map;
import java.util.TreeSet;

/**
 * The sentences of the document that have tests of their own. What a test quotes has to stand in the document
 * under the section that it names; and no sentence that tells an answer or a refusal may be left without a test.
 */
final class Sentences {
    private static final TreeSet<String> QUOTED = new TreeSet<>();

    interface Number {
        Object answer(NetlistBench x, int number);
    }

    private Sentences() {
    }

    static void hold(String section, String words, Runnable test) {
        QUOTED.add(section + ": " + words);
        Check.under(section + " (\"" + words + "\") ");
        int before = Check.looked();
        test.run();
        Check.due("it has a test", "" + (Check.looked() > before), "true");
        Check.under("");
    }

    // ---- sentences that several promises share

    static void holdNoSuchNode(String section, Number call) {
        hold(section, "Throws `IndexOutOfBoundsException` if there is no such node", () -> {
            for (int nodes : new int[] {0, 1, 3, Benches.MOST_NODES}) {
                dueBounds(Benches.of(nodes), nodes, call);
            }
        });
    }

    static void holdNoSuchElement(String section, String words, Number call) {
        hold(section, words, () -> {
            for (int elements : new int[] {0, 1, 3, Benches.MOST_ELEMENTS}) {
                dueBounds(Benches.withElements(elements), elements, call);
            }
        });
    }

    private static void dueBounds(NetlistBench x, int count, Number call) {
        for (int number = 0; number < count; number++) {
            int told = number;
            Check.dueOther(told + " of " + count, () -> call.answer(x, told), Check.INDEX);
        }
        for (int number : Benches.outside(count)) {
            Check.due(number + " of " + count, Check.outcome(() -> call.answer(x, number)), Check.INDEX);
        }
    }

    /** The call is made on a divider. */
    static void holdNoSuchTime(String section, Number call) {
        hold(section, "Throws `IllegalArgumentException` if time is not 0 to 999", () -> {
            NetlistBench x = Benches.divider();
            for (int time : Benches.TIMES) {
                Check.dueOther("time " + time, () -> call.answer(x, time), Check.ARGUMENT);
            }
            for (int time : Benches.NO_TIMES) {
                Check.due("time " + time, Check.outcome(() -> call.answer(x, time)), Check.ARGUMENT);
            }
        });
    }

    // ---- the document itself

    static void lookUp(Path document) throws IOException {
        Map<String, String> sections = sections(Files.readString(document, StandardCharsets.UTF_8));
        for (String quote : QUOTED) {
            int colon = quote.indexOf(": ");
            String text = sections.getOrDefault(quote.substring(0, colon), "");
            Check.due(quote, text.contains(quote.substring(colon + 2)) ? "quoted" : "not in the document", "quoted");
        }
        for (Map.Entry<String, String> section : sections.entrySet()) {
            if (section.getKey().startsWith("Promise ")) {
                dueAllHeld(section.getKey(), section.getValue());
            }
        }
    }

    /** Each section's text by its name, one line a paragraph or item, as the document has them. */
    private static Map<String, String> sections(String document) {
        Map<String, String> sections = new LinkedHashMap<>();
        String name = "";
        for (String line : document.split("\n")) {
            if (line.startsWith("## ")) {
                int colon = line.indexOf(':');
                name = line.substring(3, colon < 0 ? line.length() : colon);
            } else {
                sections.merge(name, line + "\n", String::concat);
            }
        }
        return sections;
    }

    private static void dueAllHeld(String section, String text) {
        for (String line : text.split("\n")) {
            if (line.startsWith("Throws ") || line.startsWith("Returns ") && line.contains(";")) {
                Check.due(section + ": " + line, isHeld(section, line) ? "tested" : "not tested", "tested");
            }
        }
        boolean isHeldAtAll = false;
        for (String quote : QUOTED) {
            isHeldAtAll |= quote.startsWith(section + ": ");
        }
        Check.due(section, isHeldAtAll ? "tested" : "not tested", "tested");
    }

    private static boolean isHeld(String section, String line) {
        for (String quote : QUOTED) {
            if (quote.startsWith(section + ": ") && line.contains(quote.substring(section.length() + 2))) {
                return true;
            }
        }
        return false;
    }
}
