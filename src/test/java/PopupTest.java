/** Promises 10 to 12: the popup. */
public final class PopupTest {
    public static void main(String[] args) {
        opening();
        openingInPlaceOfAnother();
        openWhenTold();
        telling();
        tellingArguments();
        tellingStates();
        untoldIsClosed();
        pressOutside();
        pressInside();
        hoversBeforeWindows();
        dismissing();
        dismissingInside();
        itsPlaceAndView();
        itemsInIt();
        Checks.finish("PopupTest");
    }

    private static void opening() {
        PanelFrames ui = new PanelFrames();
        Checks.refusedState("open in no frame", () -> ui.open(1));
        Checks.same("nothing is open", ui.look(9), -1);
        ui.begin();
        Checks.refusedArgument("open(-1)", () -> ui.open(-1));
        Checks.refusedArgument("open(1000)", () -> ui.open(1000));
        Checks.same("the frame is on", ui.look(14), 1);
        Checks.yes("open(0)", ui.open(0));
        Checks.same("open for 0", ui.look(9), 0);
        Checks.yes("open(999)", ui.open(999));
        Checks.same("open for 999", ui.look(9), 999);
        Checks.same("it isn't told yet", ui.place(8, 8), 0);
        ui.window(0, 0, 0, 50, 50);
        Checks.yes("open in a window", ui.open(3));
        Checks.same("nothing more is open in the pile", ui.look(13), 1);
        ui.close();
        ui.end();
        Checks.same("it stays open", ui.look(9), 3);
    }

    private static void openingInPlaceOfAnother() {
        PanelFrames ui = new PanelFrames();
        ui.point(10, 20);
        ui.begin();
        ui.open(1);
        ui.popup(1, 50, 60);
        ui.close();
        ui.end();
        ui.point(30, 45);
        ui.begin();
        Checks.yes("another one", ui.open(2));
        Checks.no("the first is open no more", ui.popup(1, 50, 60));
        Checks.yes("the other is", ui.popup(2, 50, 60));
        Checks.same("left where the mouse is then", ui.place(8, 0), 30);
        Checks.same("top where the mouse is then", ui.place(8, 1), 45);
        ui.close();
        ui.end();
        ui.point(33, 50);
        ui.begin();
        ui.popup(2, 50, 60);
        Checks.same("it stays there", ui.place(8, 0), 30);
        ui.close();
        ui.end();
    }

    private static void openWhenTold() {
        PanelFrames ui = new PanelFrames();
        ui.begin();
        ui.open(1);
        ui.popup(1, 50, 60);
        Checks.no("told in this frame", ui.open(2));
        ui.close();
        Checks.no("and closed", ui.open(2));
        Checks.same("still open for the first", ui.look(9), 1);
        ui.dismiss();
        Checks.no("and dismissed", ui.open(2));
        Checks.same("open for none", ui.look(9), -1);
        ui.end();
        ui.begin();
        Checks.yes("in the next frame", ui.open(2));
        ui.end();
    }

    private static void telling() {
        PanelFrames ui = new PanelFrames();
        ui.begin();
        Checks.no("it isn't open", ui.popup(1, 50, 60));
        Checks.same("nothing is told", ui.place(8, 8), 0);
        Checks.same("nothing is open", ui.look(13), 0);
        Checks.no("and again", ui.popup(1, 50, 60));
        ui.open(1);
        Checks.no("for another label", ui.popup(2, 50, 60));
        Checks.same("nothing is told for another", ui.look(13), 0);
        Checks.yes("for its label", ui.popup(1, 50, 60));
        Checks.same("it is told", ui.place(8, 8), 1);
        Checks.same("it is open", ui.look(13), 1);
        ui.close();
        Checks.same("one quad: it has no title", ui.end(), 1);
        Checks.same("four vertices", ui.drawn(2), 4);
        Checks.quad("the popup", ui, 0, 0, 0, 50, 60, 1);
    }

    private static void tellingArguments() {
        PanelFrames ui = new PanelFrames();
        ui.begin();
        ui.open(1);
        Checks.refusedArgument("label -1", () -> ui.popup(-1, 50, 60));
        Checks.refusedArgument("label 1000", () -> ui.popup(1000, 50, 60));
        Checks.refusedArgument("width 39", () -> ui.popup(1, 39, 60));
        Checks.refusedArgument("width 401", () -> ui.popup(1, 401, 60));
        Checks.refusedArgument("height 29", () -> ui.popup(1, 50, 29));
        Checks.refusedArgument("height 401", () -> ui.popup(1, 50, 401));
        Checks.refusedArgument("also for another label", () -> ui.popup(2, 50, 401));
        Checks.same("the frame is on", ui.look(14), 1);
        Checks.yes("the smallest", ui.popup(1, 40, 30));
        ui.close();
        ui.end();
        ui.begin();
        Checks.yes("the biggest", ui.popup(1, 400, 400));
        Checks.same("width", ui.place(8, 2), 400);
        Checks.same("height", ui.place(8, 3), 400);
        ui.close();
        ui.end();
    }

    private static void tellingStates() {
        PanelFrames ui = new PanelFrames();
        Checks.refusedState("in no frame", () -> ui.popup(1, 50, 60));
        ui.begin();
        ui.open(1);
        ui.window(0, 0, 0, 50, 50);
        Checks.refusedState("in a window", () -> ui.popup(1, 50, 60));
        Checks.same("broken: no popup is open", ui.look(9), -1);
        ui.begin();
        ui.open(1);
        ui.popup(1, 50, 60);
        ui.close();
        Checks.refusedState("told already", () -> ui.popup(1, 50, 60));
        ui.begin();
        ui.open(1);
        ui.popup(1, 50, 60);
        Checks.refusedState("a window in the popup", () -> ui.window(0, 0, 0, 50, 50));
    }

    private static void untoldIsClosed() {
        PanelFrames ui = new PanelFrames();
        ui.begin();
        ui.open(1);
        ui.end();
        Checks.same("not in the frame it was opened in", ui.look(9), 1);
        ui.begin();
        Checks.same("not before the frame ends", ui.look(9), 1);
        ui.end();
        Checks.same("when the frame ends", ui.look(9), -1);
        ui.begin();
        ui.open(1);
        ui.popup(1, 50, 60);
        ui.close();
        ui.end();
        ui.begin();
        ui.popup(1, 50, 60);
        ui.close();
        ui.end();
        Checks.same("told it stays", ui.look(9), 1);
        ui.begin();
        ui.popup(2, 50, 60);
        ui.end();
        Checks.same("told for another it doesn't", ui.look(9), -1);
    }

    /** A popup at 100, 100, 50 wide and 60 high, over window 0 at 80, 80. */
    private static PanelFrames withPopup() {
        PanelFrames ui = new PanelFrames();
        ui.point(100, 100);
        ui.begin();
        ui.open(1);
        tellBoth(ui);
        ui.end();
        return ui;
    }

    private static boolean tellBoth(PanelFrames ui) {
        boolean told = ui.popup(1, 50, 60);
        if (told) {
            ui.button(4, 30);
            ui.close();
        }
        ui.window(0, 80, 80, 200, 200);
        ui.button(4, 30);
        ui.close();
        return told;
    }

    private static void pressOutside() {
        PanelFrames ui = withPopup();
        ui.point(99, 120);
        ui.begin();
        Checks.same("outside, not pressed: open", ui.look(9), 1);
        tellBoth(ui);
        ui.end();
        ui.press(true);
        ui.begin();
        Checks.same("pressed outside: closed", ui.look(9), -1);
        Checks.same("no window is hovered", ui.look(4), -1);
        Checks.same("none came to the front", ui.place(0, 7), 0);
        Checks.no("it is told no more", tellBoth(ui));
        ui.end();
        ui.press(false);
        ui.begin();
        Checks.same("now the window is hovered", ui.look(4), 0);
        ui.end();
    }

    private static void pressInside() {
        PanelFrames ui = withPopup();
        ui.point(149, 159);
        ui.press(true);
        ui.begin();
        Checks.same("pressed inside: open", ui.look(9), 1);
        Checks.same("it is hovered", ui.look(4), 8);
        Checks.yes("it is told", tellBoth(ui));
        Checks.same("it is never active", ui.look(0), 0);
        ui.end();
        ui.point(150, 159);
        ui.begin();
        Checks.same("pressed earlier: open", ui.look(9), 1);
        ui.end();
    }

    private static void hoversBeforeWindows() {
        PanelFrames ui = withPopup();
        ui.point(105, 105);
        ui.begin();
        Checks.same("the popup", ui.look(4), 8);
        tellBoth(ui);
        Checks.same("its button", ui.look(1), Checks.idIn(8, 4));
        ui.end();
        ui.point(90, 100);
        ui.begin();
        Checks.same("beside it none", ui.look(4), -1);
        tellBoth(ui);
        Checks.same("nor an item of the window", ui.look(1), 0);
        ui.dismiss();
        ui.end();
        ui.begin();
        Checks.same("without it the window", ui.look(4), 0);
        tellBoth(ui);
        Checks.same("and its button", ui.look(1), Checks.idIn(0, 4));
        ui.end();
    }

    private static void dismissing() {
        PanelFrames ui = new PanelFrames();
        Checks.no("nothing is open", ui.dismiss());
        ui.begin();
        Checks.no("nothing is open in a frame", ui.dismiss());
        ui.open(1);
        Checks.yes("it is open", ui.dismiss());
        Checks.same("at once", ui.look(9), -1);
        Checks.no("it is closed", ui.dismiss());
        Checks.no("it can't be told", ui.popup(1, 50, 60));
        ui.open(1);
        ui.end();
        Checks.yes("in no frame", ui.dismiss());
        Checks.same("closed in no frame", ui.look(9), -1);
    }

    private static void dismissingInside() {
        PanelFrames ui = new PanelFrames();
        ui.begin();
        ui.open(1);
        ui.popup(1, 50, 60);
        ui.button(1, 10);
        Checks.yes("in the popup", ui.dismiss());
        Checks.same("it is in the pile yet", ui.look(13), 1);
        ui.button(2, 10);
        Checks.same("close", ui.close(), 0);
        Checks.same("what is told stays told", ui.place(8, 8), 1);
        ui.end();
        Checks.same("and is drawn: popup, button, digit, button, digit", ui.drawn(2), 20);
        ui.begin();
        Checks.same("it isn't hovered then", ui.look(4), -1);
        ui.end();
    }

    private static void itsPlaceAndView() {
        PanelFrames ui = new PanelFrames();
        ui.point(10, 20);
        ui.begin();
        ui.open(1);
        Checks.same("not told: left 0", ui.place(8, 0), 0);
        Checks.same("its place in the order", ui.place(8, 7), 8);
        ui.popup(1, 50, 60);
        Checks.same("told: left", ui.place(8, 0), 10);
        Checks.same("told: top", ui.place(8, 1), 20);
        for (int k = 0; k < 5; k++) {
            ui.button(k, 20);
        }
        ui.close();
        Checks.same("HIGH", ui.place(8, 5), 76);
        ui.end();
        ui.wheel(9);
        ui.begin();
        ui.popup(1, 50, 60);
        Checks.same("VIEW is its height", ui.place(8, 4), 16);
        ui.button(0, 20);
        Checks.latest("scrolled", ui, 14, 8, 34, 20);
        ui.close();
        ui.end();
    }

    private static void itemsInIt() {
        PanelFrames ui = new PanelFrames();
        ui.point(500, 600);
        ui.begin();
        ui.open(1);
        ui.popup(1, 50, 60);
        ui.button(3, 20);
        Checks.latest("4 right and below", ui, 504, 604, 524, 616);
        ui.close();
        ui.end();
        ui.point(505, 605);
        ui.press(true);
        ui.begin();
        ui.popup(1, 50, 60);
        ui.button(3, 20);
        Checks.same("the popup's ID is 1008", ui.look(0), 31 * 1008 + 4);
        ui.close();
        ui.end();
    }
}
