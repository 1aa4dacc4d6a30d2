import java.lang.reflect.InvocationTargetException;
import java.lang.reflect.Method;
import java.util.ArrayList;
import java.util.List;

/**
 * Tests told as sentences of the document, each with runs of calls on new objects. A row of a run is one of:
 * <pre>
 * clip(0, 1, 2)                 the call throws nothing
 * clip(0, 1, 2) = 6             it answers this number
 * clip(0, 4, 2) ! Index         it throws this very exception (Index, Argument, State), and nothing seen is changed
 * 13 times pass()               the call so many times
 * text H22p                     the text is emptied, and these characters are appended
 * hedge 2132                    plant() of stems with these leaves from the left
 * stands 2132                   the stems have these leaves from the left
 * fines 3 0, clips 1 0, taken 2 0    the numbers of the gardeners 0 and 1
 * marked                        all that can be seen is as behind the last row "mark"
 * </pre>
 * An argument or an answer may be a number, NONE, a character as 'x', or a hedge by its leaves from the left as #2132.
 */
class Runs {
    private static final int MOST_CALLS = 512;
    private static final int MOST_TOLD = 100;
    private static final String[] TOLD_OF_GARDENERS = {"fines", "clips", "taken"};

    private static String sentence = "";
    private static int sentences = 0;
    private static int wrong = 0;

    private final HedgeClips object = new HedgeClips();
    private int calls = 0;
    private String mark = "";

    /** Begins the test of a sentence of the document. */
    static void sentence(String words) {
        sentence = words;
        sentences++;
    }

    /** Makes the calls of all rows on one new object. */
    static void run(String... rows) {
        Runs run = new Runs();
        for (int i = 0; i < rows.length; i++) {
            run.row(rows[i], i);
        }
        if (run.calls > MOST_CALLS) {
            throw new AssertionError("a run of more calls than are promised: " + rows[0]);
        }
    }

    /** The rows of several lists, one behind the other. */
    static String[] rows(Object... parts) {
        List<String> all = new ArrayList<>();
        for (Object part : parts) {
            if (part instanceof String[]) {
                all.addAll(List.of((String[]) part));
            } else {
                all.add((String) part);
            }
        }
        return all.toArray(new String[0]);
    }

    static void end() {
        System.out.println(sentences + " sentences, " + wrong + " rows not as due");
        System.exit(wrong == 0 ? 0 : 1);
    }

    private static void tell(String row, int at, String what) {
        wrong++;
        if (wrong > MOST_TOLD) {
            return;
        }
        System.out.println("\"" + sentence + "\", row " + at + ", " + row + ": " + what);
    }

    private void row(String row, int at) {
        String[] words = row.split(" ");
        if (row.equals("mark")) {
            mark = seen();
        } else if (row.equals("marked")) {
            compare(row, at, seen(), mark);
        } else if (words[0].equals("text")) {
            write(row.length() > 5 ? row.substring(5) : "");
        } else if (words[0].equals("hedge")) {
            callRow("plant(" + words[1].length() + ", #" + words[1] + ")", at);
        } else if (words[0].equals("stands")) {
            compare(row, at, leaves(), words[1]);
            compare(row, at, answer("about(7)"), String.valueOf(number(words[1])));
        } else if (List.of(TOLD_OF_GARDENERS).contains(words[0])) {
            int what = List.of(TOLD_OF_GARDENERS).indexOf(words[0]);
            compare(row, at, answer("gardener(0, " + what + ")"), words[1]);
            compare(row, at, answer("gardener(1, " + what + ")"), words[2]);
        } else if (words.length > 2 && words[1].equals("times")) {
            for (int i = 0; i < Integer.parseInt(words[0]); i++) {
                callRow(words[2], at);
            }
        } else {
            callRow(row, at);
        }
    }

    private void callRow(String row, int at) {
        if (row.contains(" ! ")) {
            String[] parts = row.split(" ! ");
            String before = seen();
            compare(row, at, answer(parts[0]), parts[1]);
            compare(row, at, seen(), before);
        } else if (row.contains(" = ")) {
            String[] parts = row.split(" = ");
            compare(row, at, answer(parts[0]), String.valueOf(value(parts[1])));
        } else {
            String answer = answer(row);
            if (!answer.matches("-?[0-9]+")) {
                tell(row, at, "threw " + answer);
            }
        }
    }

    private void compare(String row, int at, String got, String due) {
        if (!got.equals(due)) {
            tell(row, at, "answered " + got + ", due is " + due);
        }
    }

    private void write(String text) {
        answer("clearText()");
        for (char c : text.toCharArray()) {
            answer("append(" + (int) c + ")");
        }
    }

    private String leaves() {
        int stems = Integer.parseInt(answer("about(0)"));
        StringBuilder leaves = new StringBuilder();
        for (int i = 0; i < stems; i++) {
            leaves.append(answer("leaves(" + i + ")"));
        }
        return leaves.toString();
    }

    /** All that an object tells of itself without a change. */
    private String seen() {
        StringBuilder seen = new StringBuilder();
        for (int what = 0; what <= 7; what++) {
            seen.append(answer("about(" + what + ")")).append(' ');
        }
        for (int i = 0; i < 6; i++) {
            seen.append(answer("gardener(" + i / 3 + ", " + i % 3 + ")")).append(' ');
        }
        seen.append(answer("setting(0)")).append(' ').append(answer("setting(1)")).append(' ');
        return seen.append(answer("errorPosition()")).toString();
    }

    static int number(String leaves) {
        int number = 0;
        for (int i = leaves.length() - 1; i >= 0; i--) {
            number = 4 * number + leaves.charAt(i) - '0';
        }
        return number;
    }

    private static long value(String word) {
        if (word.equals("NONE")) {
            return HedgeClips.NONE;
        }
        if (word.startsWith("'")) {
            return word.charAt(1);
        }
        return word.startsWith("#") ? number(word.substring(1)) : Long.parseLong(word);
    }

    /** What a call answers: its number, or the name of its exception. */
    private String answer(String call) {
        calls++;
        String name = call.substring(0, call.indexOf('('));
        String list = call.substring(name.length() + 1, call.lastIndexOf(')')).strip();
        String[] words = list.isEmpty() ? new String[0] : list.split(", *");
        Method method = methodOf(name, words.length);
        Object[] arguments = new Object[words.length];
        for (int i = 0; i < words.length; i++) {
            boolean isLong = method.getParameterTypes()[i] == long.class;
            arguments[i] = isLong ? (Object) value(words[i]) : (Object) Math.toIntExact(value(words[i]));
        }
        try {
            return String.valueOf(method.invoke(object, arguments));
        } catch (InvocationTargetException thrown) {
            return nameOf(thrown.getCause().getClass());
        } catch (IllegalAccessException hidden) {
            throw new AssertionError(hidden);
        }
    }

    private static Method methodOf(String name, int arguments) {
        for (Method method : HedgeClips.class.getMethods()) {
            if (method.getName().equals(name) && method.getParameterCount() == arguments) {
                return method;
            }
        }
        throw new AssertionError("no method " + name + " with " + arguments + " arguments");
    }

    /** The very class counts: an exception of the machine is often below the one that is due. */
    private static String nameOf(Class<?> thrown) {
        if (thrown == IndexOutOfBoundsException.class) {
            return "Index";
        }
        if (thrown == IllegalArgumentException.class) {
            return "Argument";
        }
        return thrown == IllegalStateException.class ? "State" : thrown.getName();
    }
}
