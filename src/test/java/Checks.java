import java.util.Objects;
import java.util.Random;

/** Counts and prints the answers that are not as due. */
final class Checks {
    private final String test;
    private int made = 0;
    private int wrong = 0;

    Checks(String test) {
        this.test = test;
    }

    void due(String what, Object got, Object want) {
        made++;
        if (!Objects.equals(got, want)) {
            wrong++;
            System.out.println(test + ": " + what + " answered " + got + ", due is " + want);
        }
    }

    /** The exception must be of this very class, so that what the machine throws does not count. */
    void refused(String what, Class<? extends RuntimeException> want, Runnable call) {
        made++;
        Class<?> got = null;
        try {
            call.run();
        } catch (RuntimeException e) {
            got = e.getClass();
        }
        if (got != want) {
            wrong++;
            System.out.println(test + ": " + what + " threw " + got + ", due is " + want);
        }
    }

    /** As refused, and nothing that can be looked at may have changed. */
    void refusedUnchanged(String what, Class<? extends RuntimeException> want, DecimalMenagerie m, Runnable call) {
        String before = look(m);
        refused(what, want, call);
        due("what is there after " + what, look(m), before);
    }

    /** All numbers with their values, scales and modes, and the totals. */
    static String look(DecimalMenagerie m) {
        StringBuilder text = new StringBuilder();
        for (int position = 0; position < m.count(); position++) {
            int id = m.numberAt(position);
            text.append(id).append('=').append(m.value(id)).append('/').append(m.scale(id)).append(m.mode(id)).append(' ');
        }
        return text + "crumbs " + m.crumbs() + " escapes " + m.escapes() + " accounts " + m.totalByAccounts();
    }

    static void append(DecimalMenagerie m, String text) {
        for (int i = 0; i < text.length(); i++) {
            m.append(text.charAt(i));
        }
    }

    int made() {
        return made;
    }

    int wrong() {
        return wrong;
    }

    void end() {
        System.out.println(test + ": " + made + " checks, " + wrong + " wrong");
        if (wrong != 0 || made == 0) {
            System.exit(1);
        }
    }

    static int pick(Random random, int... choices) {
        return choices[random.nextInt(choices.length)];
    }
}
