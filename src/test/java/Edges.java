import java.util.ArrayList;
import java.util.List;
import java.util.Objects;

/**
 * Tests of single sentences of the document: each is claimed with its promise and its words, and what does not
 * hold is told with the sentence and the line of the test.
 */
final class Edges {
    /** Where a sentence stands that is ahead of promise 1. */
    static final int TERMS = 0;
    static final String MODES = "duhle";
    // An object is used for at most 512 calls, of which the scene has taken some.
    private static final int CALLS_PER_OBJECT = 300;

    interface Scene {
        DecimalMenagerie make();
    }

    interface Call {
        Object on(DecimalMenagerie m);
    }

    interface CallWith {
        Object on(DecimalMenagerie m, int argument);
    }

    interface CallWithMode {
        Object on(DecimalMenagerie m, char mode);
    }

    record Claim(int promise, String words) {
    }

    private final Checks checks;
    private final List<Claim> claims = new ArrayList<>();
    private String about = "";

    Edges(Checks checks) {
        this.checks = checks;
    }

    List<Claim> claims() {
        return claims;
    }

    void sentence(int promise, String words, Runnable test) {
        claims.add(new Claim(promise, words));
        about = "promise " + promise + ", \"" + words + "\"";
        int before = checks.made();
        test.run();
        checks.due(about + " is looked at", checks.made() > before, true);
    }

    // ---- answers

    void due(Object got, Object want) {
        // Most checks hold, and only what does not needs its line.
        checks.due(Objects.equals(got, want) ? about : about + " at " + testLine(), got, want);
    }

    private static String testLine() {
        return StackWalker.getInstance().walk(frames -> frames
                .filter(frame -> !frame.getClassName().equals(Edges.class.getName()))
                .findFirst().map(frame -> frame.getFileName() + ":" + frame.getLineNumber()).orElse("?"));
    }

    void answers(Object want, Scene scene, Call call) {
        due(answer(scene.make(), call), want);
    }

    /** The exception of the very class is thrown, and nothing that can be asked afterwards tells of the call. */
    void refuses(Class<? extends RuntimeException> want, Scene scene, Call call) {
        due(answer(scene.make(), call), want);
        same(scene, m -> answer(m, call), m -> null);
    }

    /** Whatever is asked after the two ways from the scene on, the answers are the same. */
    void same(Scene scene, Call oneWay, Call otherWay) {
        for (Call story : Story.ALL) {
            DecimalMenagerie one = scene.make();
            DecimalMenagerie other = scene.make();
            oneWay.on(one);
            otherWay.on(other);
            due(story.on(one), story.on(other));
        }
    }

    void keepsAll(Scene scene, Call call) {
        same(scene, call, m -> null);
    }

    /** The answer, or the class of the exception. */
    static Object answer(DecimalMenagerie m, Call call) {
        try {
            return call.on(m);
        } catch (RuntimeException e) {
            return e.getClass();
        }
    }

    // ---- ranges

    /** Both ends of the range are allowed, and what lies beyond them is refused, next to them and far away. */
    void range(Class<? extends RuntimeException> refusal, int low, Object atLow, int high, Object atHigh,
            Scene scene, CallWith call) {
        answers(atLow, scene, m -> call.on(m, low));
        answers(atHigh, scene, m -> call.on(m, high));
        for (int beyond : new int[] {low - 1, high + 1, Integer.MIN_VALUE, Integer.MAX_VALUE}) {
            refuses(refusal, scene, m -> call.on(m, beyond));
        }
    }

    void argument(int low, Object atLow, int high, Object atHigh, Scene scene, CallWith call) {
        range(IllegalArgumentException.class, low, atLow, high, atHigh, scene, call);
    }

    void index(int low, Object atLow, int high, Object atHigh, Scene scene, CallWith call) {
        range(IndexOutOfBoundsException.class, low, atLow, high, atHigh, scene, call);
    }

    /** All characters but the five modes are refused. */
    void modes(Scene scene, CallWithMode call) {
        for (int i = 0; i < MODES.length(); i++) {
            char mode = MODES.charAt(i);
            due(answer(scene.make(), m -> call.on(m, mode)) instanceof Class, false);
        }
        for (char near : new char[] {'c', 'f', 'g', 'i', 'k', 'm', 't', 'v', 'D', 0, 256 + 'd', 65535}) {
            refuses(IllegalArgumentException.class, scene, m -> call.on(m, near));
        }
        DecimalMenagerie used = null;
        for (int character = 0; character <= 65535; character++) {
            char mode = (char) character;
            used = character % CALLS_PER_OBJECT == 0 ? scene.make() : used;
            if (MODES.indexOf(mode) < 0) {
                due(answer(used, m -> call.on(m, mode)), IllegalArgumentException.class);
            }
        }
    }

    /** Ids of numbers that are there are taken; none other is, and none at all where there are no numbers. */
    void numbers(CallWith call) {
        for (int there : new int[] {0, 2, 3}) {
            due(answer(Scenes.withGap(), m -> call.on(m, there)) instanceof Class, false);
        }
        for (int none : new int[] {1, -1, 4, 6, Integer.MIN_VALUE, Integer.MAX_VALUE}) {
            refuses(java.util.NoSuchElementException.class, Scenes::withGap, m -> call.on(m, none));
        }
        for (int there : new int[] {0, 5}) {
            due(answer(Scenes.full(), m -> call.on(m, there)) instanceof Class, false);
        }
        for (int none : new int[] {-1, 6}) {
            refuses(java.util.NoSuchElementException.class, Scenes::full, m -> call.on(m, none));
        }
        for (int none : new int[] {-1, 0, 1}) {
            refuses(java.util.NoSuchElementException.class, Scenes::none, m -> call.on(m, none));
        }
    }
}
