import java.util.function.Supplier;

/** What the tests share: compares answers, counts the wrong ones, and ends the program. */
final class Checks {
    interface Call {
        void run();
    }

    interface Event {
        boolean with(PanelFrames ui, int value);
    }

    interface Telling {
        void with(PanelFrames ui, int value);
    }

    static final int TAB = 0;
    static final int ENTER = 1;
    static final int LEFT = 2;
    static final int RIGHT = 3;
    static final int BACK = 4;
    static final int HOME = 5;

    private static int asked;
    private static int wrong;

    private Checks() {
    }

    static void same(String what, long got, long want) {
        asked++;
        if (got != want) {
            wrong++;
            System.out.println(what + ": answered " + got + ", due is " + want);
        }
    }

    static void yes(String what, boolean got) {
        same(what, got ? 1 : 0, 1);
    }

    static void no(String what, boolean got) {
        same(what, got ? 1 : 0, 0);
    }

    static void refusedArgument(String what, Call call) {
        same(what + " throws IllegalArgumentException", thrownBy(call), 1);
    }

    static void refusedState(String what, Call call) {
        same(what + " throws IllegalStateException", thrownBy(call), 2);
    }

    /** 0 nothing, 1 IllegalArgumentException, 2 IllegalStateException, 3 another one. */
    static int thrownBy(Call call) {
        try {
            call.run();
            return 0;
        } catch (RuntimeException thrown) {
            if (thrown.getClass() == IllegalArgumentException.class) {
                return 1;
            }
            return thrown.getClass() == IllegalStateException.class ? 2 : 3;
        }
    }

    /** The ends of a range and their neighbours inside. */
    static int[] inside(int low, int high) {
        return new int[] {low, Math.min(low + 1, high), Math.max(high - 1, low), high};
    }

    /** One step beyond each end of a range, and far beyond. */
    static int[] outside(int low, int high) {
        return new int[] {low - 1, high + 1, Integer.MIN_VALUE, Integer.MAX_VALUE};
    }

    /** An event is taken with the values low .. high, and refused with others: those don't wait. */
    static void eventRange(String what, int low, int high, Event event) {
        for (int value : inside(low, high)) {
            PanelFrames ui = new PanelFrames();
            yes(what + " " + value, event.with(ui, value));
            same(what + " " + value + " waits", ui.look(11), 1);
        }
        for (int value : outside(low, high)) {
            PanelFrames ui = new PanelFrames();
            no(what + " " + value, event.with(ui, value));
            same(what + " " + value + " doesn't wait", ui.look(11), 0);
        }
    }

    /**
     * A call has an argument low .. high: others are refused in a state that would do as in one that
     * would not, and the frame goes on; with the right ones the state alone decides.
     */
    static void argumentRange(String what, int low, int high, Supplier<PanelFrames> made, Telling call) {
        for (int value : inside(low, high)) {
            PanelFrames ui = made.get();
            same(what + " " + value + " throws", thrownBy(() -> call.with(ui, value)), 0);
            PanelFrames idle = new PanelFrames();
            refusedState(what + " " + value + " in no frame", () -> call.with(idle, value));
        }
        for (int value : outside(low, high)) {
            PanelFrames ui = made.get();
            int open = ui.look(13);
            refusedArgument(what + " " + value, () -> call.with(ui, value));
            same(what + " " + value + ": the frame is on", ui.look(14), 1);
            same(what + " " + value + ": as much is open", ui.look(13), open);
            PanelFrames idle = new PanelFrames();
            refusedArgument(what + " " + value + " in no frame", () -> call.with(idle, value));
        }
    }

    /** A frame in which nothing is open. */
    static PanelFrames inFrame() {
        PanelFrames ui = new PanelFrames();
        ui.begin();
        return ui;
    }

    /** A frame in which window 0 is open, at 0, 0, 400 wide and high. */
    static PanelFrames inWindow() {
        PanelFrames ui = inFrame();
        ui.window(0, 0, 0, 400, 400);
        return ui;
    }

    /** The ID that labels have, one told in the other, in a window. */
    static int idIn(int window, int... labels) {
        int id = 1000 + window;
        for (int label : labels) {
            id = 31 * id + 1 + label;
            id = id == 0 ? 1 : id;
        }
        return id;
    }

    /** Six labels, one told in the other in a window, whose ID is a rest beyond whole turns of an int. */
    static int[] labelsFor(int window, long rest) {
        int[] labels = new int[6];
        long power = 1;
        long least = 0;
        for (int k = 0; k < labels.length; k++) {
            least += power;
            power *= 31;
        }
        long lowest = (1000 + window) * power + least;
        long turn = 1L << 32;
        long target = (lowest / turn + 1) * turn + rest;
        long left = target - lowest;
        for (int k = 0; k < labels.length; k++) {
            power /= 31;
            labels[k] = (int) Math.max(0, Math.min(999, left / power - (k < labels.length - 1 ? 1 : 0)));
            left -= labels[k] * power;
        }
        same("labels for " + rest, left, 0);
        return labels;
    }

    static void latest(String what, PanelFrames ui, int left, int top, int right, int bottom) {
        same(what + ", left", ui.look(5), left);
        same(what + ", top", ui.look(6), top);
        same(what + ", right", ui.look(7), right);
        same(what + ", bottom", ui.look(8), bottom);
    }

    static void command(String what, PanelFrames ui, int k, int... parts) {
        for (int part = 0; part < parts.length; part++) {
            same(what + ": command(" + k + ", " + part + ")", ui.command(k, part), parts[part]);
        }
    }

    static void quad(String what, PanelFrames ui, int quad, int left, int top, int right, int bottom, int colour) {
        int[] xs = {left, right, right, left};
        int[] ys = {top, top, bottom, bottom};
        for (int corner = 0; corner < 4; corner++) {
            int k = 4 * quad + corner;
            same(what + ": vertex(" + k + ", 0)", ui.vertex(k, 0), xs[corner]);
            same(what + ": vertex(" + k + ", 1)", ui.vertex(k, 1), ys[corner]);
            same(what + ": vertex(" + k + ", 2)", ui.vertex(k, 2), colour);
        }
    }

    static void finish(String test) {
        System.out.println(test + ": " + asked + " asked, " + wrong + " wrong");
        if (wrong > 0) {
            System.exit(1);
        }
    }
}
