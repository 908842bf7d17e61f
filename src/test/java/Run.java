/**
 * A new object and the calls on it. An answer is what the call gave, or "throws." with the exception's name. It never
 * makes more than the 512 calls behind which the document promises nothing.
 */
final class Run {
    static final int NONE = HoleTemplates.NONE;
    static final String STATE = "throws.IllegalStateException";
    static final String ARGUMENT = "throws.IllegalArgumentException";
    static final String INDEX = "throws.IndexOutOfBoundsException";
    static final String UNSUPPORTED = "throws.UnsupportedOperationException";

    private static final int CALL_LIMIT = 512;

    private final HoleTemplates object = new HoleTemplates();
    private int calls;

    interface Call {
        Object on(HoleTemplates x);
    }

    private Object answer(Call call) {
        calls++;
        if (calls > CALL_LIMIT) {
            throw new AssertionError("the test makes more calls than the document speaks of");
        }
        try {
            return call.on(object);
        } catch (RuntimeException e) {
            return "throws." + e.getClass().getSimpleName();
        }
    }

    Object type(int c) {
        return answer(x -> x.type((char) c));
    }

    Object wipe() {
        return answer(HoleTemplates::wipe);
    }

    Object add() {
        return answer(HoleTemplates::add);
    }

    Object clear() {
        return answer(HoleTemplates::clear);
    }

    Object compile() {
        return answer(HoleTemplates::compile);
    }

    Object accepts() {
        return answer(HoleTemplates::accepts);
    }

    Object fault() {
        return answer(HoleTemplates::fault);
    }

    Object hole(int k) {
        return answer(x -> x.hole(k));
    }

    Object item(int v) {
        return answer(x -> x.item(v));
    }

    Object forget(int v) {
        return answer(x -> x.forget(v));
    }

    Object write() {
        return answer(HoleTemplates::write);
    }

    Object written() {
        return answer(HoleTemplates::written);
    }

    /** The number of the character, so that it can be compared with 0. */
    Object letter(int i) {
        return answer(x -> (int) x.letter(i));
    }

    /** Types a text that must find room. */
    Run typed(String s) {
        for (int i = 0; i < s.length(); i++) {
            if (!Boolean.TRUE.equals(type(s.charAt(i)))) {
                throw new AssertionError("could not type " + s);
            }
        }
        return this;
    }

    /** Adds a text to the template, in rows of 40. */
    Run added(String s) {
        for (int i = 0; i < s.length(); i += 40) {
            typed(s.substring(i, Math.min(i + 40, s.length())));
            add();
        }
        return this;
    }

    Run given(int v, String... items) {
        for (String item : items) {
            typed(item);
            item(v);
        }
        return this;
    }

    Run compiled(String template) {
        added(template);
        compile();
        return this;
    }

    /** The writing from one place to before another, as far as it goes. */
    String text(int from, int to) {
        StringBuilder b = new StringBuilder();
        int end = written() instanceof Integer length ? Math.min(length, to) : 0;
        for (int i = Math.max(from, 0); i < end; i++) {
            b.append(letter(i) instanceof Integer c ? (char) c.intValue() : '?');
        }
        return b.toString();
    }

    String text() {
        return text(0, 200);
    }
}
