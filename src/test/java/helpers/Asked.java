import java.lang.reflect.InvocationTargetException;
import java.lang.reflect.Method;
import java.lang.reflect.Modifier;
import java.util.ArrayList;
import java.util.HashMap;
import java.util.List;
import java.util.Map;

/**
 * A till that a test asks. Calls are written as in the document; each answer is held against the one that is due; what
 * was called is kept, so that the run can be made again on a new object. No object is used for more than 512 calls.
 */
final class Asked {
    private static final int MOST_CALLS = 512;
    private static final Map<String, Method> FACE = face();
    private final TillFloat till = new TillFloat();
    private final List<String> told = new ArrayList<>();

    private static Map<String, Method> face() {
        Map<String, Method> face = new HashMap<>();
        for (Method m : TillFloat.class.getDeclaredMethods()) {
            if (Modifier.isPublic(m.getModifiers())) {
                face.put(m.getName(), m);
            }
        }
        return face;
    }

    /** A new object. */
    static Asked fresh() {
        return new Asked();
    }

    /** An object that was told a text. */
    static Asked till(String text) {
        Asked x = new Asked().on(text);
        if (x.ask("tell()") < 1) {
            Sentences.fail("the test's own text is none: " + text);
        }
        return x;
    }

    private static Asked again(List<String> told) {
        Asked x = new Asked();
        for (String call : told) {
            x.ask(call);
        }
        return x;
    }

    long ask(String call) {
        told.add(call);
        if (told.size() > MOST_CALLS) {
            Sentences.fail("the test asks one object more than " + MOST_CALLS + " calls");
        }
        int open = call.indexOf('(');
        String inside = call.substring(open + 1, call.length() - 1).trim();
        String[] words = inside.isEmpty() ? new String[0] : inside.split(",");
        Object[] arguments = new Object[words.length];
        for (int i = 0; i < words.length; i++) {
            arguments[i] = number(words[i].trim());
        }
        try {
            return ((Number) FACE.get(call.substring(0, open)).invoke(till, arguments)).longValue();
        } catch (InvocationTargetException thrown) {
            Sentences.fail(call + " threw " + thrown.getCause());
            return Long.MIN_VALUE;
        } catch (IllegalAccessException e) {
            throw new IllegalStateException(e);
        }
    }

    private static int number(String word) {
        switch (word) {
            case "NONE":
                return TillFloat.NONE;
            case "MAX":
                return Integer.MAX_VALUE;
            case "MIN":
                return Integer.MIN_VALUE;
            default:
                return word.startsWith("0x") ? Integer.parseUnsignedInt(word.substring(2), 16) : Integer.parseInt(word);
        }
    }

    /** An act that the test needs ahead of what it asks; it must not be refused. */
    Asked act(String call) {
        if (ask(call) < 0) {
            Sentences.fail("the test's own " + call + " was refused");
        }
        return this;
    }

    Asked due(String call, long want) {
        Sentences.due(call, want, ask(call));
        return this;
    }

    /** The same call for K 0, 1, .. */
    Asked each(String call, long... want) {
        for (int k = 0; k < want.length; k++) {
            due(call.replace("K", "" + k), want[k]);
        }
        return this;
    }

    /** All letters; they are asked of objects made for it, as they may be more than an object is good for. */
    Asked text(String want) {
        Asked x = again(told);
        long length = x.ask("letter(NONE)");
        StringBuilder text = new StringBuilder();
        for (int k = 0; k < length; k++) {
            x = x.told.size() < MOST_CALLS ? x : again(told);
            text.append((char) x.ask("letter(" + k + ")"));
        }
        Sentences.due("letter(NONE)", want.length(), length);
        if (!want.contentEquals(text)) {
            Sentences.fail("the letters are " + text + ", due are " + want);
        }
        return this;
    }

    /** A text comes behind the tape, twenty bytes at a time, and the tape ends behind it. */
    Asked on(String text) {
        long ahead = ask("count(6)");
        for (int i = 0; i < text.length(); i += 20) {
            StringBuilder call = new StringBuilder("feed(");
            for (int j = i; j < i + 20; j += 4) {
                call.append(j == i ? "" : ", ").append(four(text, j));
            }
            ask(call.append(")").toString());
        }
        ask("end(" + (ahead + text.length()) + ")");
        return this;
    }

    private static int four(String text, int at) {
        int n = 0;
        for (int i = at; i < at + 4; i++) {
            n = n << 8 | (i < text.length() ? text.charAt(i) & 255 : 0);
        }
        return n;
    }

    /** The call answers so, and all is as if it had not been made: what stands, what can be undone, tape and shelves. */
    Asked leaves(String call, long want) {
        List<String> before = all(told);
        List<String> with = new ArrayList<>(told);
        with.add(call);
        due(call, want);
        sameAs(call, before, all(with));
        return this;
    }

    /** An act and its undo leave all as it was. */
    Asked undone(String call) {
        List<String> before = all(told);
        act(call);
        due("undo()", ask("count(5)") - 1);
        sameAs(call + ", undone", before, all(told));
        return this;
    }

    /** What was asked ahead of an act (or of none, "", or of one that is refused) changes no answer behind it. */
    Asked unmoved(String[] acts, String[] calls) {
        for (String act : acts) {
            for (String call : calls) {
                long want = behind("", act).ask(call);
                for (String ahead : calls) {
                    Sentences.due(call + " behind " + ahead + " " + act, want, behind(ahead, act).ask(call));
                }
            }
        }
        return this;
    }

    private Asked behind(String ahead, String act) {
        Asked x = again(told);
        if (!ahead.isEmpty()) {
            x.ask(ahead);
        }
        if (!act.isEmpty()) {
            x.ask(act);
        }
        return x;
    }

    /** The text with a fault where the ^ stands is told: but for the tape nothing happens. */
    Asked fault(String marked, int what) {
        int place = marked.indexOf('^');
        String text = marked.replace("^", "");
        List<String> with = new ArrayList<>(told);
        with.add("end(0)");
        List<String> before = all(with);
        Asked x = again(with).on(text);
        Sentences.due("tell() of \"" + marked + "\"", -2L - (8L * place + what), x.ask("tell()"));
        sameAs("tell() of \"" + marked + "\"", before, all(x.told));
        return this;
    }

    private static void sameAs(String call, List<String> before, List<String> behind) {
        for (int i = 0; i < Math.min(before.size(), behind.size()); i++) {
            if (!before.get(i).equals(behind.get(i))) {
                Sentences.fail("ahead of " + call + " " + before.get(i) + ", behind it " + behind.get(i));
                return;
            }
        }
        if (before.size() != behind.size()) {
            Sentences.fail(call + " does not leave all as it was");
        }
    }

    /** All that can be seen behind a run: what stands, what each undo leads to, what the tape tells, what shelves keep. */
    private static List<String> all(List<String> run) {
        List<String> seen = new ArrayList<>();
        again(run).look(seen);
        List<String> undone = new ArrayList<>(run);
        long more = again(run).ask("count(5)");
        for (int i = 0; i < Math.min(more, 12); i++) {
            undone.add("undo()");
            again(undone).look(seen);
        }
        for (String end : new String[] {"undo()", "tell()", "back(0)", "back(1)"}) {
            Asked x = again(run);
            x.see(end, seen);
            x.look(seen);
        }
        return seen;
    }

    private void look(List<String> seen) {
        for (int what = 0; what < 10; what++) {
            see("count(" + what + ")", seen);
        }
        long kinds = see("count(0)", seen);
        for (int k = 0; k < kinds; k++) {
            for (int what = 0; what < 7; what++) {
                see("kind(" + k + ", " + what + ")", seen);
            }
        }
        long days = see("count(1)", seen);
        for (int d = 0; d < days; d++) {
            long sales = see("day(" + d + ", 0)", seen);
            for (int i = 0; i < sales; i++) {
                see("sale(" + d + ", " + i + ", 0)", seen);
                for (int k = 0; k < kinds; k++) {
                    see("sale(" + d + ", " + i + ", " + (10 + k) + ")", seen);
                }
            }
        }
    }

    private long see(String call, List<String> seen) {
        long answer = ask(call);
        seen.add(call + " is " + answer);
        return answer;
    }
}
