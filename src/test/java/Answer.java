import java.util.function.IntSupplier;

/** What a call answers, as a text: a number, nothing, or the exception that it throws. */
final class Answer {
    static final String NOTHING = "nothing";

    private Answer() {
    }

    static String of(IntSupplier call) {
        try {
            return Integer.toString(call.getAsInt());
        } catch (RuntimeException thrown) {
            return named(thrown.getClass());
        }
    }

    /** As of a call without an answer: only whether it throws. */
    static String of(Scene call, Memory memory) {
        try {
            call.play(memory);
            return NOTHING;
        } catch (RuntimeException thrown) {
            return named(thrown.getClass());
        }
    }

    static String named(Class<? extends RuntimeException> exception) {
        return "throws." + exception.getSimpleName();
    }
}
