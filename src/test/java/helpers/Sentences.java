import java.io.IOException;
import java.nio.file.Files;
import java.nio.file.Path;
import java.nio.file.Paths;

/** The sentences of the document that tests stand for: which one is on trial, how many there were, what went wrong. */
final class Sentences {
    private static final int MOST_TOLD = 40;
    private static String document = "";
    private static String current = "";
    private static int sentences = 0;
    private static int answers = 0;
    private static int wrong = 0;

    private Sentences() {
    }

    /** With the path of the document each sentence is held against its words, too. */
    static void open(String[] args) throws IOException {
        if (args.length > 0) {
            Path path = Paths.get(args[0]);
            document = Files.readString(path);
        }
    }

    static void promise(int number, String words) {
        begin("promise " + number, words);
        int from = document.indexOf("## Promise " + number + ":");
        int to = document.indexOf("## ", from + 3);
        quote(from < 0 ? "" : document.substring(from, to), words);
    }

    /** A sentence of "What it is", of "Terms" or of part II. */
    static void terms(String words) {
        begin("terms", words);
        quote(document, words);
    }

    private static void begin(String where, String words) {
        current = where + ", \"" + words + "\"";
        sentences++;
    }

    private static void quote(String section, String words) {
        if (!document.isEmpty() && !section.contains(words)) {
            fail("does not stand there in the document");
        }
    }

    static void due(String call, long want, long got) {
        answers++;
        if (want != got) {
            fail(call + " answered " + got + ", due is " + want);
        }
    }

    static void fail(String what) {
        wrong++;
        if (wrong <= MOST_TOLD) {
            System.out.println(current + ": " + what);
        }
    }

    static void close(String name) {
        System.out.println(name + ": " + sentences + " sentences, " + answers + " answers, " + (wrong == 0 ? "as due" : wrong + " not as due"));
        if (wrong != 0) {
            System.exit(1);
        }
    }
}
