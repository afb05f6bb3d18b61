/** The boundary cases of frames: who is refused when, and what a broken frame leaves. Promises 7 to 22. */
public final class FrameEdgesTest {
    private static final int NO_FRAME = 0;
    private static final int NOTHING_OPEN = 1;
    private static final int WINDOW_OPEN = 2;
    private static final int POPUP_OPEN = 3;
    private static final int SCOPE_OPEN = 4;
    private static final int WINDOW_CLOSED = 5;
    private static final int FRAME_ENDED = 6;
    private static final int FRAME_BROKEN = 7;
    private static final int STATES = 8;

    public static void main(String[] args) {
        framesBeginAndEnd();
        windowsAndThePopup();
        itemsNeedAWindow();
        nothingIsRefused();
        refusedInNoFrame();
        everyRefusalBreaks();
        brokenByEnd();
        brokenLeavesNothing();
        brokenToldNothing();
        brokenKeepsWhatWaits();
        brokenKeepsWhatIsDown();
        brokenKeepsThePlace();
        brokenGivesNoFocus();
        theNextFrameIsNew();
        eventsAreTakenByBegin();
        refusedBeginTakesNothing();
        Checks.finish("FrameEdgesTest");
    }

    private static PanelFrames in(int state) {
        PanelFrames ui = new PanelFrames();
        if (state == NO_FRAME) {
            return ui;
        }
        ui.begin();
        switch (state) {
            case WINDOW_OPEN:
                ui.window(0, 0, 0, 100, 100);
                break;
            case POPUP_OPEN:
                ui.open(1);
                ui.popup(1, 100, 100);
                break;
            case SCOPE_OPEN:
                ui.window(0, 0, 0, 100, 100);
                ui.scope(1);
                break;
            case WINDOW_CLOSED:
                ui.window(0, 0, 0, 100, 100);
                ui.close();
                break;
            case FRAME_ENDED:
                ui.window(0, 0, 0, 100, 100);
                ui.close();
                ui.end();
                break;
            case FRAME_BROKEN:
                Checks.refusedState("close", ui::close);
                break;
            default:
                break;
        }
        return ui;
    }

    private interface Asked {
        void of(PanelFrames ui);
    }

    /** A call is refused in the states that are named, and in no other; each refusal ends the frame. */
    private static void refusedIn(String what, Asked call, int... refused) {
        for (int state = 0; state < STATES; state++) {
            boolean isRefused = false;
            for (int one : refused) {
                isRefused |= one == state;
            }
            PanelFrames ui = in(state);
            int on = ui.look(14);
            Checks.same(what + " in state " + state + " throws", Checks.thrownBy(() -> call.of(ui)), isRefused ? 2 : 0);
            if (isRefused) {
                Checks.same(what + " in state " + state + ": the frame is over", ui.look(14), 0);
                Checks.same(what + " in state " + state + ": nothing is open", ui.look(13), 0);
                Checks.same(what + " in state " + state + ": told", ui.place(0, 8), on == 0 && state == FRAME_ENDED ? 1 : 0);
            }
        }
    }

    /** begin: "in a frame". end: "in no frame, or something is open". close: "or nothing is open". */
    private static void framesBeginAndEnd() {
        refusedIn("begin", ui -> ui.begin(), NOTHING_OPEN, WINDOW_OPEN, POPUP_OPEN, SCOPE_OPEN, WINDOW_CLOSED);
        refusedIn("end", ui -> ui.end(), NO_FRAME, WINDOW_OPEN, POPUP_OPEN, SCOPE_OPEN, FRAME_ENDED, FRAME_BROKEN);
        refusedIn("close", ui -> ui.close(), NO_FRAME, NOTHING_OPEN, WINDOW_CLOSED, FRAME_ENDED, FRAME_BROKEN);
    }

    /** "In no frame, something is open, or it was told in this frame." */
    private static void windowsAndThePopup() {
        refusedIn("window 0", ui -> ui.window(0, 0, 0, 100, 100),
            NO_FRAME, WINDOW_OPEN, POPUP_OPEN, SCOPE_OPEN, WINDOW_CLOSED, FRAME_ENDED, FRAME_BROKEN);
        refusedIn("window 1", ui -> ui.window(1, 0, 0, 100, 100),
            NO_FRAME, WINDOW_OPEN, POPUP_OPEN, SCOPE_OPEN, FRAME_ENDED, FRAME_BROKEN);
        refusedIn("popup", ui -> ui.popup(2, 100, 100),
            NO_FRAME, WINDOW_OPEN, POPUP_OPEN, SCOPE_OPEN, FRAME_ENDED, FRAME_BROKEN);
        refusedIn("open", ui -> ui.open(2), NO_FRAME, FRAME_ENDED, FRAME_BROKEN);
    }

    private static void inAWindowAlone(String what, Asked call) {
        refusedIn(what, call, NO_FRAME, NOTHING_OPEN, WINDOW_CLOSED, FRAME_ENDED, FRAME_BROKEN);
    }

    /** "No window is open." */
    private static void itemsNeedAWindow() {
        inAWindowAlone("button", ui -> ui.button(1, 10));
        inAWindowAlone("check", ui -> ui.check(1));
        inAWindowAlone("slider", ui -> ui.slider(1, 10, 0, 1));
        inAWindowAlone("field", ui -> ui.field(1, 10));
        inAWindowAlone("tree", ui -> ui.tree(1, 10));
        inAWindowAlone("child", ui -> ui.child(1, 10, 10));
        inAWindowAlone("scope", ui -> ui.scope(1));
        inAWindowAlone("group", ui -> ui.group());
        inAWindowAlone("near", ui -> ui.near());
    }

    private static void nothingIsRefused() {
        refusedIn("point", ui -> ui.point(1, 1));
        refusedIn("press", ui -> ui.press(true));
        refusedIn("wheel", ui -> ui.wheel(1));
        refusedIn("key", ui -> ui.key(1, true));
        refusedIn("letter", ui -> ui.letter('a'));
        refusedIn("dismiss", ui -> ui.dismiss());
        refusedIn("look", ui -> ui.look(-1));
        refusedIn("place", ui -> ui.place(-1, -1));
        refusedIn("kept", ui -> ui.kept(0));
        refusedIn("text", ui -> ui.text(0, -1));
        refusedIn("drawn", ui -> ui.drawn(-1));
        refusedIn("command", ui -> ui.command(-1, -1));
        refusedIn("index", ui -> ui.index(-1));
        refusedIn("vertex", ui -> ui.vertex(-1, -1));
    }

    private static final int ID = 31002;

    private static void tellButton(PanelFrames ui) {
        ui.begin();
        ui.window(0, 0, 0, 100, 100);
        ui.button(1, 40);
        ui.close();
        ui.end();
    }

    /** Button 1 of window 0 is hovered, active and in focus, and held, and a popup is open. */
    private static PanelFrames withAll() {
        PanelFrames ui = new PanelFrames();
        ui.point(10, 20);
        tellButton(ui);
        ui.press(true);
        ui.key(Checks.ENTER, true);
        ui.begin();
        ui.open(5);
        ui.window(0, 0, 0, 100, 100);
        ui.button(1, 40);
        ui.close();
        ui.end();
        int[] due = {ID, ID, ID, ID, 0};
        for (int what = 0; what < due.length; what++) {
            Checks.same("look(" + what + ") to begin with", ui.look(what), due[what]);
        }
        Checks.same("the popup", ui.look(9), 5);
        return ui;
    }

    private static void refused(String what, PanelFrames ui, Checks.Call call) {
        int[] before = new int[15];
        for (int k = 0; k < 15; k++) {
            before[k] = ui.look(k);
        }
        Checks.refusedState(what, call);
        for (int k = 0; k < 15; k++) {
            Checks.same(what + " in no frame: look(" + k + ")", ui.look(k), before[k]);
        }
    }

    /** "A frame is BROKEN by a call in it": outside of one such a call changes nothing. */
    private static void refusedInNoFrame() {
        PanelFrames ui = withAll();
        refused("end", ui, ui::end);
        refused("close", ui, ui::close);
        refused("window", ui, () -> ui.window(0, 0, 0, 100, 100));
        refused("open", ui, () -> ui.open(1));
        refused("popup", ui, () -> ui.popup(5, 100, 100));
        refused("button", ui, () -> ui.button(1, 40));
        refused("near", ui, ui::near);
        refused("group", ui, ui::group);
        Checks.same("told in the latest frame", ui.place(0, 8), 1);
        Checks.yes("the popup is open", ui.dismiss());
    }

    private static void isBroken(String what, PanelFrames ui) {
        int[] due = {0, 0, 0, 0, -1};
        for (int k = 0; k < due.length; k++) {
            Checks.same(what + ": look(" + k + ")", ui.look(k), due[k]);
        }
        Checks.same(what + ": the popup", ui.look(9), -1);
        Checks.same(what + ": things open", ui.look(13), 0);
        Checks.same(what + ": the frame", ui.look(14), 0);
        for (int window = 0; window < 9; window++) {
            Checks.same(what + ": told " + window, ui.place(window, 8), 0);
        }
    }

    private static PanelFrames withAllTold() {
        PanelFrames ui = withAll();
        ui.begin();
        ui.window(0, 0, 0, 100, 100);
        ui.button(1, 40);
        return ui;
    }

    /** "It is over, nothing is active, hovered (no window either), held, has the focus, no popup is open". */
    private static void everyRefusalBreaks() {
        PanelFrames begin = withAllTold();
        Checks.refusedState("begin", begin::begin);
        isBroken("begin", begin);
        PanelFrames window = withAllTold();
        Checks.refusedState("window", () -> window.window(1, 0, 0, 100, 100));
        isBroken("window", window);
        PanelFrames popup = withAllTold();
        Checks.refusedState("popup", () -> popup.popup(5, 100, 100));
        isBroken("popup", popup);
        PanelFrames close = withAllTold();
        close.close();
        Checks.refusedState("close", close::close);
        isBroken("close", close);
        PanelFrames near = withAllTold();
        near.close();
        Checks.refusedState("near", near::near);
        isBroken("near", near);
        PanelFrames child = withAllTold();
        for (int k = 0; k < 8; k++) {
            child.child(2, 10, 10);
        }
        Checks.refusedState("child", () -> child.child(2, 10, 10));
        isBroken("child", child);
    }

    private static void brokenByEnd() {
        PanelFrames ui = withAllTold();
        Checks.refusedState("end with something open", ui::end);
        isBroken("end", ui);
        PanelFrames told = withAllTold();
        told.close();
        Checks.same("end with nothing open", told.end(), 3);
        Checks.same("active", told.look(0), ID);
        Checks.same("told", told.place(0, 8), 1);
    }

    private static void brokenLeavesNothing() {
        PanelFrames ui = withAllTold();
        Checks.refusedState("end", ui::end);
        ui.press(false);
        ui.key(Checks.ENTER, false);
        ui.begin();
        ui.window(0, 0, 0, 100, 100);
        Checks.no("nothing was active or held, so nothing is clicked", ui.button(1, 40));
        Checks.same("nor hovered: no window was told before", ui.look(1), 0);
        ui.close();
        ui.end();
        Checks.no("no popup is open", ui.dismiss());
    }

    /** "Nothing counts as told in it": neither in the next frame, nor for place. */
    private static void brokenToldNothing() {
        PanelFrames ui = new PanelFrames();
        ui.point(10, 20);
        tellButton(ui);
        ui.begin();
        Checks.same("told in the frame before", ui.look(4), 0);
        ui.window(0, 0, 0, 100, 100);
        Checks.same("told in this one", ui.place(0, 8), 1);
        ui.close();
        Checks.refusedState("close", ui::close);
        Checks.same("not told in it", ui.place(0, 8), 0);
        ui.press(true);
        ui.begin();
        Checks.same("not told in the frame before", ui.look(4), -1);
        Checks.same("so it doesn't come to the front", ui.place(0, 7), 0);
        Checks.yes("it can be told", ui.window(0, 0, 0, 100, 100));
    }

    private static void brokenKeepsWhatWaits() {
        PanelFrames ui = new PanelFrames();
        ui.press(true);
        ui.point(30, 40);
        ui.letter('a');
        ui.begin();
        Checks.same("two wait", ui.look(11), 2);
        ui.wheel(1);
        Checks.refusedState("close", ui::close);
        Checks.same("three wait", ui.look(11), 3);
        Checks.same("three are taken", ui.begin(), 3);
    }

    /** The mouse and the keys are no matter of the frame: they are as the events that were taken left them. */
    private static void brokenKeepsWhatIsDown() {
        PanelFrames ui = new PanelFrames();
        ui.point(10, 20);
        ui.press(true);
        ui.key(Checks.TAB, true);
        ui.begin();
        Checks.refusedState("close", ui::close);
        Checks.same("the mouse is pressed", ui.look(10), 1);
        ui.key(Checks.TAB, true);
        tellButton(ui);
        Checks.same("TAB is down already, so it isn't DOWN HERE", ui.look(2), 0);
        ui.press(true);
        tellButton(ui);
        Checks.same("the mouse is pressed already", ui.look(0), 0);
        ui.key(Checks.TAB, false);
        ui.key(Checks.TAB, true);
        tellButton(ui);
        Checks.same("TAB goes down again", ui.look(2), ID);
    }

    /** "(a window that was told in it for the first time has its place)". */
    private static void brokenKeepsThePlace() {
        PanelFrames ui = Checks.inFrame();
        ui.window(3, -100, 999, 100, 100);
        ui.close();
        ui.window(4, 20, 30, 100, 100);
        Checks.refusedState("end", ui::end);
        Checks.same("its left", ui.place(3, 0), -100);
        Checks.same("its top", ui.place(3, 1), 999);
        ui.begin();
        ui.window(3, 1, 2, 100, 100);
        Checks.same("its left as told first", ui.place(3, 0), -100);
        ui.close();
        ui.window(4, 1, 2, 100, 100);
        Checks.same("also of the one that was open", ui.place(4, 0), 20);
        Checks.same("its top", ui.place(4, 1), 30);
        ui.close();
        ui.window(5, 1, 2, 100, 100);
        Checks.same("one that wasn't told in it", ui.place(5, 0), 1);
    }

    /** What comes when a frame ends doesn't come when it is broken. */
    private static void brokenGivesNoFocus() {
        PanelFrames ui = new PanelFrames();
        ui.key(Checks.TAB, true);
        ui.begin();
        ui.window(0, 0, 0, 100, 100);
        ui.button(1, 40);
        Checks.refusedState("end", ui::end);
        Checks.same("TAB gives no focus", ui.look(2), 0);
        Checks.same("there is no drawing", ui.drawn(2), 0);
        tellButton(ui);
        Checks.same("nor in the next frame", ui.look(2), 0);
    }

    /** "No item is hovered, nothing is told yet, the pile is empty." */
    private static void theNextFrameIsNew() {
        PanelFrames ui = withAll();
        ui.begin();
        Checks.same("no item is hovered", ui.look(1), 0);
        Checks.same("nothing is open", ui.look(13), 0);
        for (int window = 0; window < 9; window++) {
            Checks.same("not told yet: " + window, ui.place(window, 8), 0);
        }
        Checks.same("active as before", ui.look(0), ID);
        Checks.same("focus as before", ui.look(2), ID);
        Checks.same("held as before", ui.look(3), ID);
        Checks.same("the hovered window", ui.look(4), 0);
    }

    /** "How many events were taken": none, one, 64. */
    private static void eventsAreTakenByBegin() {
        int[] counts = {0, 1, 2, 63, 64};
        for (int count : counts) {
            PanelFrames ui = new PanelFrames();
            for (int k = 0; k < count; k++) {
                ui.point(k, k);
            }
            Checks.same(count + " wait", ui.look(11), count);
            Checks.same(count + " are taken", ui.begin(), count);
            Checks.same("none waits", ui.look(11), 0);
            Checks.same("nothing is drawn", ui.end(), 0);
            Checks.same("none is taken", ui.begin(), 0);
        }
    }

    private static void refusedBeginTakesNothing() {
        PanelFrames ui = Checks.inFrame();
        ui.point(10, 20);
        ui.press(true);
        Checks.refusedState("begin in a frame", ui::begin);
        Checks.same("two wait", ui.look(11), 2);
        Checks.same("not pressed", ui.look(10), 0);
        Checks.same("two are taken", ui.begin(), 2);
        Checks.same("pressed", ui.look(10), 1);
    }
}
