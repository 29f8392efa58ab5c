import java.util.ArrayList;
import java.util.List;

/**
 * A run of calls on a new object, for the tests of one sentence of the document. Of each call that
 * must be refused Probe also looks whether it changes nothing.
 */
final class Run {
    static final int NONE = -1;
    static final int TIE = -2;
    static final int LEAST = Integer.MIN_VALUE;
    static final int GREATEST = Integer.MAX_VALUE;
    static final String NO_ELEMENT = "NoSuchElementException";
    static final String ARGUMENT = "IllegalArgumentException";
    static final String STATE = "IllegalStateException";

    /** Nothing is promised about an object after so many calls. */
    static final int CALLS = 512;

    private final String sentence;
    private final ClaimSources x = new ClaimSources();
    private final List<Call> accepted = new ArrayList<>();
    private int made = 0;

    Run(String sentence) {
        this.sentence = sentence;
    }

    /** Makes so many sources (kind 0, day 0, an empty text) and claims. */
    Run with(int sources, int claims) {
        for (int i = 0; i < sources; i++) {
            go("source", 0, 0);
        }
        for (int i = 0; i < claims; i++) {
            go("claim");
        }
        return this;
    }

    /** Puts a text behind the pad. */
    Run write(String text) {
        for (int i = 0; i < text.length(); i++) {
            go("unit", (int) text.charAt(i));
        }
        return this;
    }

    /** A call that must not be refused. */
    void go(String name, Object... arguments) {
        Call call = new Call(name, arguments);
        String got = make(call);
        Due.due(tell(call) + " is refused", got.startsWith("throws."), false);
        accepted.add(call);
    }

    void due(int want, String name, Object... arguments) {
        due(String.valueOf(want), new Call(name, arguments));
    }

    void due(boolean want, String name, Object... arguments) {
        due(String.valueOf(want), new Call(name, arguments));
    }

    /** The call throws exactly this exception, and changes nothing. */
    void refused(String exception, String name, Object... arguments) {
        Call call = new Call(name, arguments);
        Due.due(tell(call), make(call), "throws." + exception);
        Due.due(tell(call) + " changes the answer of", Probe.difference(accepted, call), "nothing");
    }

    /** The answers for k = 0, 1, .. as the last argument, and NONE behind them. */
    void dueRow(String want, String name, Object... arguments) {
        String[] numbers = want.isEmpty() ? new String[0] : want.split(" ");
        for (int k = 0; k < numbers.length; k++) {
            due(numbers[k], new Call(name, longer(arguments, k)));
        }
        due(NONE, name, longer(arguments, numbers.length));
    }

    /** The citation's length and signs, and no sign behind them. */
    void dueCitation(String want, int source, int form) {
        due(want.length(), "cite", source, form, -1);
        for (int i = 0; i < want.length(); i++) {
            due(want.charAt(i), "cite", source, form, i);
        }
        refused(NO_ELEMENT, "cite", source, form, want.length());
    }

    /**
     * The argument at this place may be the least and the greatest of these numbers; the next ones
     * beside them are refused, and so are the least and the greatest int.
     */
    void bound(int least, int greatest, String exception, int place,
            String name, Object... arguments) {
        go(name, replaced(arguments, place, least));
        go(name, replaced(arguments, place, greatest));
        for (int outside : new int[] {least - 1, greatest + 1, LEAST, GREATEST}) {
            refused(exception, name, replaced(arguments, place, outside));
        }
    }

    private void due(String want, Call call) {
        Due.due(tell(call), make(call), want);
        accepted.add(call);
    }

    private String make(Call call) {
        made++;
        Due.due(tell(call) + " comes behind call " + CALLS, made > CALLS, false);
        return call.on(x);
    }

    private String tell(Call call) {
        return sentence + ": call " + made + ", " + call;
    }

    private static Object[] longer(Object[] arguments, int last) {
        Object[] result = new Object[arguments.length + 1];
        System.arraycopy(arguments, 0, result, 0, arguments.length);
        result[arguments.length] = last;
        return result;
    }

    private static Object[] replaced(Object[] arguments, int place, int number) {
        Object[] result = arguments.clone();
        result[place] = number;
        return result;
    }
}
