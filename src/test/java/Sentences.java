import java.io.IOException;
import java.nio.file.Files;
import java.nio.file.Path;
import java.util.ArrayList;
import java.util.List;
import java.util.regex.Matcher;
import java.util.regex.Pattern;

/**
 * A section of the document, sentence by sentence: each is told as it stands there, in order, with runs of calls that fail
 * where it does not hold. No sentence may be left out, none may be told that the document does not have.
 */
final class Sentences {
    private static final Path DOCUMENT = Path.of("../shared/DOC.md");
    private static final String LANE = " L,";

    private final String heading;
    private final String text;
    private int at = 0;

    private Sentences(String heading, String text) {
        this.heading = heading;
        this.text = text;
    }

    /** A checkout without the document can still make the calls; the quotes are not held against it then. */
    private static boolean isHere() {
        return Files.exists(DOCUMENT);
    }

    static String document() {
        try {
            return isHere() ? Files.readString(DOCUMENT) : "";
        } catch (IOException e) {
            throw new IllegalStateException(e);
        }
    }

    static List<String> headings() {
        List<String> all = new ArrayList<>();
        Matcher m = Pattern.compile("(?m)^## (.*)$").matcher(document());
        while (m.find()) {
            all.add(m.group(1));
        }
        return all;
    }

    /** The section below a heading, without what is no sentence: the call as written, fences, lines about the interface. */
    static Sentences of(String heading) {
        String document = document();
        int from = document.indexOf("\n## " + heading + "\n");
        if (isHere()) {
            Due.hold("the document has a section " + heading, from >= 0);
        } else {
            System.out.println("there is no " + DOCUMENT + " to hold the quotes against");
        }
        String section = from < 0 ? "" : document.substring(from + heading.length() + 5).split("\n## ")[0];
        String plain = section.replaceAll("(?m)^```.*$", " ").replaceAll("(?m)^Ahead of the calls .*$", " ")
            .replaceAll("(?m)^`[^`]*`:", " ").replaceAll("(?m)^==== \\d", " ");
        return new Sentences(heading, plain.replaceAll("\\s+", " "));
    }

    /** Runs on new objects; one that has a lane L is run once for each lane. */
    Sentences says(String quote, String... runs) {
        return says(quote, () -> {
            for (String run : runs) {
                for (int lane = 0; lane < (run.contains(LANE) ? 3 : 1); lane++) {
                    Script.run(heading + ", " + quote, run.replace(LANE, " " + lane + ","));
                }
            }
        });
    }

    Sentences says(String quote, Runnable checks) {
        Due.hold(heading + ": \"" + quote + "\" is the next sentence", isNext(quote));
        int before = Due.asked();
        checks.run();
        Due.hold(heading + ": \"" + quote + "\" is looked at", Due.asked() > before);
        return this;
    }

    private boolean isNext(String quote) {
        if (!isHere()) {
            return true;
        }
        int from = text.indexOf(quote, at);
        if (from < 0 || !text.substring(at, from).isBlank()) {
            return false;
        }
        at = from + quote.length();
        return true;
    }

    /** A piece that tells what others are for, and no answer. */
    Sentences tells(String quote) {
        Due.hold(heading + ": \"" + quote + "\" is the next sentence", isNext(quote));
        return this;
    }

    void end() {
        Due.hold(heading + ": nothing is left of it: " + text.substring(Math.min(at, text.length())), text.substring(Math.min(at, text.length())).isBlank());
    }
}
