import java.util.ArrayList;
import java.util.List;

/**
 * What the document says of one call: the declaration without its exceptions, these exceptions, what the call is for,
 * a line for each argument ("width: 5 to 100"), what it returns, and when it throws.
 */
record Promise(String declaration, String exceptions, String purpose, List<String> arguments, String returns,
        List<String> refusals) {

    /** The promises of the methods, in their order; that of the constructor has no declaration to call. */
    static List<Promise> all(Document document) {
        List<Promise> promises = new ArrayList<>();
        for (int number = 2; number <= document.count("Promise"); number++) {
            promises.add(read(document.section("Promise " + number)));
        }
        return promises;
    }

    private static Promise read(String section) {
        String first = "";
        String returns = "";
        List<String> arguments = new ArrayList<>();
        List<String> refusals = new ArrayList<>();
        for (String line : section.split("\n")) {
            if (line.startsWith("- ")) {
                arguments.add(line.substring(2));
            } else if (line.startsWith("Returns ")) {
                returns = behind("Returns ", line);
            } else if (line.startsWith("Throws ")) {
                refusals.add(behind("Throws ", line));
            } else if (first.isEmpty() && !line.startsWith("## ")) {
                first = line;
            }
        }
        int end = first.indexOf(": ");
        String[] signature = first.substring(0, Math.max(end, 0)).split(" throws ");
        return new Promise(signature[0], signature.length > 1 ? signature[1] : "", first.substring(end + 2), arguments,
                returns, refusals);
    }

    private static String behind(String begin, String line) {
        return line.substring(begin.length()).replaceAll("\\.$", "");
    }

    String name() {
        return declaration.replaceAll("^\\S+ |\\(.*", "");
    }

    /** As it stands in the face, but for the modifier and the end. */
    String signature() {
        return exceptions.isEmpty() ? declaration : declaration + " throws " + exceptions;
    }
}
