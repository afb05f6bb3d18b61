/** What the tests share: compares answers, counts the wrong ones, and ends the program. */
final class Checks {
    interface Call {
        void run();
    }

    static final int TAB = 0;
    static final int ENTER = 1;
    static final int LEFT = 2;
    static final int RIGHT = 3;
    static final int BACK = 4;
    static final int HOME = 5;

    private static int asked;
    private static int wrong;

    private Checks() {
    }

    static void same(String what, long got, long want) {
        asked++;
        if (got != want) {
            wrong++;
            System.out.println(what + ": answered " + got + ", due is " + want);
        }
    }

    static void yes(String what, boolean got) {
        same(what, got ? 1 : 0, 1);
    }

    static void no(String what, boolean got) {
        same(what, got ? 1 : 0, 0);
    }

    static void refusedArgument(String what, Call call) {
        same(what + " throws IllegalArgumentException", thrownBy(call), 1);
    }

    static void refusedState(String what, Call call) {
        same(what + " throws IllegalStateException", thrownBy(call), 2);
    }

    /** 0 nothing, 1 IllegalArgumentException, 2 IllegalStateException, 3 another one. */
    static int thrownBy(Call call) {
        try {
            call.run();
            return 0;
        } catch (RuntimeException thrown) {
            if (thrown.getClass() == IllegalArgumentException.class) {
                return 1;
            }
            return thrown.getClass() == IllegalStateException.class ? 2 : 3;
        }
    }

    /** The ID that labels have, one told in the other, in a window. */
    static int idIn(int window, int... labels) {
        int id = 1000 + window;
        for (int label : labels) {
            id = 31 * id + 1 + label;
            id = id == 0 ? 1 : id;
        }
        return id;
    }

    static void latest(String what, PanelFrames ui, int left, int top, int right, int bottom) {
        same(what + ", left", ui.look(5), left);
        same(what + ", top", ui.look(6), top);
        same(what + ", right", ui.look(7), right);
        same(what + ", bottom", ui.look(8), bottom);
    }

    static void command(String what, PanelFrames ui, int k, int... parts) {
        for (int part = 0; part < parts.length; part++) {
            same(what + ": command(" + k + ", " + part + ")", ui.command(k, part), parts[part]);
        }
    }

    static void quad(String what, PanelFrames ui, int quad, int left, int top, int right, int bottom, int colour) {
        int[] xs = {left, right, right, left};
        int[] ys = {top, top, bottom, bottom};
        for (int corner = 0; corner < 4; corner++) {
            int k = 4 * quad + corner;
            same(what + ": vertex(" + k + ", 0)", ui.vertex(k, 0), xs[corner]);
            same(what + ": vertex(" + k + ", 1)", ui.vertex(k, 1), ys[corner]);
            same(what + ": vertex(" + k + ", 2)", ui.vertex(k, 2), colour);
        }
    }

    static void finish(String test) {
        System.out.println(test + ": " + asked + " asked, " + wrong + " wrong");
        if (wrong > 0) {
            System.exit(1);
        }
    }
}
