import java.util.Objects;

/** Counts and prints answers that are not the ones that are due. */
final class Checks {
    interface Call {
        Object run();
    }

    interface Act {
        void run();
    }

    private int made = 0;
    private int wrong = 0;

    void due(String what, Object want, Object got) {
        made++;
        if (!Objects.equals(want, got)) {
            wrong++;
            System.out.println(what + " answered " + got + ", due is " + want);
        }
    }

    /** The answer, or the simple name of the exception's class. */
    static Object answer(Call call) {
        try {
            return call.run();
        } catch (RuntimeException e) {
            return e.getClass().getSimpleName();
        }
    }

    static Object answer(Act act) {
        return answer(() -> {
            act.run();
            return "done";
        });
    }

    void noSuchElement(String what, Act act) {
        due(what, "NoSuchElementException", answer(act));
    }

    void outOfBounds(String what, Act act) {
        due(what, "IndexOutOfBoundsException", answer(act));
    }

    void illegalState(String what, Act act) {
        due(what, "IllegalStateException", answer(act));
    }

    void end() {
        System.out.println(made + " answers looked at, " + wrong + " are not as due");
        if (wrong != 0) {
            System.exit(1);
        }
    }

    /** Where the six pages of a process lie. */
    static String places(ForkedSheets x, int p) {
        StringBuilder s = new StringBuilder();
        for (int page = 0; page < 6; page++) {
            s.append(page == 0 ? "" : " ").append(x.where(p, page));
        }
        return s.toString();
    }

    /** The first frames: m for one that is marked. */
    static String marks(ForkedSheets x, int frames) {
        StringBuilder s = new StringBuilder();
        for (int frame = 0; frame < frames; frame++) {
            s.append(x.marked(frame) ? 'm' : '-');
        }
        return s.toString();
    }

    /** All that can be asked without changing anything: some ninety calls. */
    static String state(ForkedSheets x) {
        StringBuilder s = new StringBuilder();
        for (int p = 0; p < 6; p++) {
            s.append(x.isThere(p) ? "there " : "not ");
            for (int page = 0; page < 6; page++) {
                s.append(x.where(p, page)).append('*').append(x.sharers(p, page)).append(' ');
            }
        }
        s.append(marks(x, 8));
        s.append(" hand ").append(x.hand());
        s.append(" free ").append(x.freeFrames()).append('/').append(x.freeSlots());
        s.append(" faults ").append(x.faults()).append(" evicted ").append(x.evicted());
        s.append(" copied ").append(x.copied());
        return s.toString();
    }
}
