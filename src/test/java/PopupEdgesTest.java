/** The boundary cases of the popup: promises 10 to 12, and what the Terms say of it. */
public final class PopupEdgesTest {
    public static void main(String[] args) {
        arguments();
        argumentsAreAskedForFirst();
        openForALabel();
        toldForALabel();
        toldForNone();
        openedWhereTheMouseIs();
        rectangleHasItsSides();
        lastPlaceOfTheScreen();
        pressedOutsideOnEachSide();
        onlyPressedHereCloses();
        mustHaveBeenToldBefore();
        closedWhenTheFrameEnds();
        openedAnewInTheFrame();
        openWhenItWasTold();
        toldTwice();
        dismissed();
        beforeAllWindows();
        noTitle();
        firstCursor();
        scrollUpToHighLessView();
        brokenFrameClosesIt();
        Checks.finish("PopupEdgesTest");
    }

    private static PanelFrames withOpenPopup() {
        PanelFrames ui = Checks.inFrame();
        ui.open(5);
        return ui;
    }

    /** Labels 0 .. 999; "or as with window": width 40 .. 400, height 30 .. 400. */
    private static void arguments() {
        Checks.argumentRange("open", 0, 999, Checks::inFrame, (ui, value) -> ui.open(value));
        Checks.argumentRange("open in a window", 0, 999, Checks::inWindow, (ui, value) -> ui.open(value));
        Checks.argumentRange("label", 0, 999, Checks::inFrame, (ui, value) -> ui.popup(value, 100, 100));
        Checks.argumentRange("width", 40, 400, PopupEdgesTest::withOpenPopup, (ui, value) -> ui.popup(5, value, 100));
        Checks.argumentRange("height", 30, 400, PopupEdgesTest::withOpenPopup, (ui, value) -> ui.popup(5, 100, value));
        Checks.argumentRange("width, for another label", 40, 400, Checks::inFrame,
            (ui, value) -> ui.popup(5, value, 100));
        Checks.argumentRange("height, for another label", 30, 400, Checks::inFrame,
            (ui, value) -> ui.popup(5, 100, value));
    }

    private static void argumentsAreAskedForFirst() {
        PanelFrames ui = withOpenPopup();
        ui.popup(5, 100, 100);
        Checks.refusedArgument("it is told and open", () -> ui.popup(5, 100, 29));
        Checks.refusedArgument("opened when it is told", () -> ui.open(1000));
        Checks.same("the frame is on", ui.look(14), 1);
        Checks.same("it is open for its label", ui.look(9), 5);
        Checks.same("its height is as it was", ui.place(8, 3), 100);
        ui.close();
        ui.end();
    }

    private static void openForALabel() {
        int[] labels = {0, 1, 998, 999};
        PanelFrames ui = Checks.inFrame();
        for (int label : labels) {
            Checks.yes("open(" + label + ")", ui.open(label));
            Checks.same("open for " + label, ui.look(9), label);
        }
        ui.end();
        Checks.same("for the last one", ui.look(9), 999);
    }

    /** "If that isn't the one it is open for, the answer is false, and nothing is told." */
    private static void toldForALabel() {
        int[] labels = {0, 1, 500, 998, 999};
        for (int label : labels) {
            PanelFrames ui = Checks.inFrame();
            ui.open(label);
            for (int other = Math.max(0, label - 1); other <= Math.min(999, label + 1); other += 2) {
                if (other != label) {
                    Checks.no("open for " + label + ", told for " + other, ui.popup(other, 100, 100));
                    Checks.same("nothing is told", ui.place(8, 8), 0);
                    Checks.same("nothing is open", ui.look(13), 0);
                }
            }
            Checks.yes("told for " + label, ui.popup(label, 100, 100));
            Checks.same("it is told", ui.place(8, 8), 1);
            Checks.same("it is open", ui.look(13), 1);
            ui.close();
            ui.end();
        }
    }

    private static void toldForNone() {
        PanelFrames ui = Checks.inFrame();
        int[] labels = {0, 1, 999};
        for (int label : labels) {
            Checks.no("it isn't open: " + label, ui.popup(label, 100, 100));
        }
        Checks.same("nothing is told", ui.place(8, 8), 0);
        Checks.same("it has no width", ui.place(8, 2), 0);
        Checks.same("nothing is drawn", ui.end(), 0);
    }

    private static PanelFrames openedAt(int x, int y) {
        PanelFrames ui = new PanelFrames();
        ui.point(x, y);
        ui.begin();
        ui.open(5);
        ui.popup(5, 40, 30);
        ui.close();
        ui.end();
        return ui;
    }

    private static void openedWhereTheMouseIs() {
        int[] places = {0, 1, 998, 999};
        for (int x : places) {
            PanelFrames ui = openedAt(x, 999 - x);
            Checks.same("left", ui.place(8, 0), x);
            Checks.same("top", ui.place(8, 1), 999 - x);
            ui.point(500, 500);
            ui.begin();
            ui.popup(5, 40, 30);
            Checks.same("it stays there", ui.place(8, 0), x);
        }
    }

    private static int hoveredAt(int x, int y) {
        PanelFrames ui = openedAt(100, 200);
        ui.point(x, y);
        ui.begin();
        Checks.same("open: not pressed at " + x + ", " + y, ui.look(9), 5);
        return ui.look(4);
    }

    /** "It, if its rectangle has the mouse; else none." */
    private static void rectangleHasItsSides() {
        int[] xs = {99, 100, 101, 138, 139, 140};
        int[] ys = {199, 200, 201, 228, 229, 230};
        for (int x : xs) {
            for (int y : ys) {
                boolean has = x >= 100 && x < 140 && y >= 200 && y < 230;
                Checks.same("hovered at " + x + ", " + y, hoveredAt(x, y), has ? 8 : -1);
            }
        }
    }

    private static void lastPlaceOfTheScreen() {
        PanelFrames ui = openedAt(999, 999);
        Checks.command("one place of it is on the screen", ui, 0, 999, 999, 1000, 1000, 0, 0, 0, 6);
        ui.press(true);
        ui.begin();
        Checks.same("pressed in it: hovered", ui.look(4), 8);
        Checks.same("and open", ui.look(9), 5);
    }

    private static int openAfterPressAt(int x, int y) {
        PanelFrames ui = openedAt(100, 200);
        ui.point(x, y);
        ui.press(true);
        ui.begin();
        return ui.look(9);
    }

    /** "Else none, and with PRESSED HERE it is closed." */
    private static void pressedOutsideOnEachSide() {
        Checks.same("left top", openAfterPressAt(100, 200), 5);
        Checks.same("left of it", openAfterPressAt(99, 200), -1);
        Checks.same("above it", openAfterPressAt(100, 199), -1);
        Checks.same("right bottom", openAfterPressAt(139, 229), 5);
        Checks.same("right of it", openAfterPressAt(140, 229), -1);
        Checks.same("below it", openAfterPressAt(139, 230), -1);
        Checks.same("far away", openAfterPressAt(999, 0), -1);
    }

    private static void tell(PanelFrames ui) {
        ui.begin();
        if (ui.popup(5, 40, 30)) {
            ui.close();
        }
        ui.end();
    }

    private static void onlyPressedHereCloses() {
        PanelFrames ui = openedAt(100, 200);
        ui.press(true);
        tell(ui);
        Checks.same("pressed in it", ui.look(9), 5);
        ui.point(99, 200);
        tell(ui);
        Checks.same("drawn out of it, pressed", ui.look(9), 5);
        ui.press(true);
        tell(ui);
        Checks.same("a press that is nothing", ui.look(9), 5);
        ui.press(false);
        tell(ui);
        Checks.same("a release", ui.look(9), 5);
        ui.press(false);
        tell(ui);
        Checks.same("a release that is nothing", ui.look(9), 5);
        ui.press(true);
        tell(ui);
        Checks.same("a press", ui.look(9), -1);
    }

    /** "If the popup is open and was told in the frame before." */
    private static void mustHaveBeenToldBefore() {
        PanelFrames ui = new PanelFrames();
        ui.point(100, 200);
        ui.begin();
        ui.open(5);
        ui.window(0, 0, 0, 300, 300);
        ui.close();
        ui.end();
        ui.point(99, 250);
        ui.press(true);
        ui.begin();
        Checks.same("opened, not told: a press outside doesn't close it", ui.look(9), 5);
        Checks.same("and the window is hovered", ui.look(4), 0);
        Checks.yes("it can be told", ui.popup(5, 40, 30));
        ui.close();
        ui.end();
        ui.press(false);
        ui.begin();
        Checks.same("told before: no window is hovered", ui.look(4), -1);
        ui.end();
    }

    /** "Closed when it isn't told in a frame (as this ends, but not in that in which it was opened)". */
    private static void closedWhenTheFrameEnds() {
        PanelFrames ui = Checks.inFrame();
        ui.open(5);
        ui.end();
        Checks.same("the frame in which it was opened", ui.look(9), 5);
        ui.begin();
        Checks.same("the next, before it ends", ui.look(9), 5);
        ui.end();
        Checks.same("the next, as it ends", ui.look(9), -1);
        PanelFrames told = openedAt(100, 200);
        tell(told);
        tell(told);
        Checks.same("as long as it is told", told.look(9), 5);
        told.begin();
        Checks.same("not told, before the frame ends", told.look(9), 5);
        told.end();
        Checks.same("not told, as it ends", told.look(9), -1);
        Checks.no("it was closed then", told.dismiss());
    }

    private static void openedAnewInTheFrame() {
        PanelFrames ui = openedAt(100, 200);
        ui.point(110, 210);
        ui.begin();
        Checks.yes("opened in place of another one", ui.open(6));
        ui.end();
        Checks.same("not told in that frame: open", ui.look(9), 6);
        ui.begin();
        Checks.no("the first one is open no more", ui.popup(5, 40, 30));
        Checks.yes("the second one is", ui.popup(6, 40, 30));
        Checks.same("where the mouse was", ui.place(8, 0), 110);
        ui.close();
        ui.end();
    }

    /** "False if it was told in this frame." */
    private static void openWhenItWasTold() {
        PanelFrames ui = withOpenPopup();
        ui.popup(5, 40, 30);
        Checks.no("while it is open", ui.open(6));
        ui.close();
        Checks.no("when it is closed", ui.open(6));
        Checks.no("also for its own label", ui.open(5));
        Checks.same("its label is as it was", ui.look(9), 5);
        ui.end();
        ui.begin();
        Checks.yes("told in the frame before alone", ui.open(6));
        Checks.same("for the new label", ui.look(9), 6);
        ui.end();
    }

    private static void toldTwice() {
        PanelFrames ui = withOpenPopup();
        Checks.yes("once", ui.popup(5, 40, 30));
        ui.close();
        Checks.refusedState("twice", () -> ui.popup(5, 40, 30));
        Checks.same("the frame is broken", ui.look(14), 0);
        PanelFrames open = withOpenPopup();
        open.popup(5, 40, 30);
        Checks.refusedState("in itself", () -> open.popup(5, 40, 30));
        PanelFrames window = withOpenPopup();
        window.window(0, 0, 0, 100, 100);
        Checks.refusedState("in a window", () -> window.popup(5, 40, 30));
        PanelFrames behind = withOpenPopup();
        behind.window(0, 0, 0, 100, 100);
        behind.close();
        Checks.yes("behind a window", behind.popup(5, 40, 30));
    }

    /** "By DISMISS, at once (what is told in it stays told)"; "whether it was". */
    private static void dismissed() {
        PanelFrames ui = new PanelFrames();
        Checks.no("never opened", ui.dismiss());
        ui.begin();
        ui.open(0);
        Checks.yes("open for label 0", ui.dismiss());
        Checks.no("twice", ui.dismiss());
        Checks.no("it can't be told", ui.popup(0, 40, 30));
        Checks.yes("but opened", ui.open(0));
        Checks.yes("and told", ui.popup(0, 40, 30));
        ui.check(1);
        Checks.yes("in it", ui.dismiss());
        Checks.same("it is open in the frame", ui.look(13), 1);
        ui.check(2);
        ui.close();
        Checks.same("it stays told", ui.place(8, 8), 1);
        Checks.same("one command", ui.end(), 1);
        Checks.same("it and both checks are drawn", ui.drawn(2), 12);
        Checks.same("closed", ui.look(9), -1);
        ui.begin();
        Checks.same("not hovered", ui.look(4), -1);
        Checks.no("nor told", ui.popup(0, 40, 30));
        ui.end();
    }

    private static void beforeAllWindows() {
        PanelFrames ui = new PanelFrames();
        ui.point(100, 200);
        for (int k = 0; k < 2; k++) {
            ui.begin();
            ui.open(5);
            if (k == 1) {
                Checks.same("it is hovered", ui.look(4), 8);
            }
            ui.popup(5, 40, 30);
            ui.close();
            ui.window(7, 80, 180, 100, 100);
            ui.close();
            ui.end();
        }
        Checks.same("its place", ui.place(8, 7), 8);
        Checks.same("the window's place", ui.place(7, 7), 7);
        Checks.quad("it is drawn at last", ui, 2, 100, 200, 140, 230, 1);
        ui.point(150, 200);
        ui.press(true);
        ui.begin();
        Checks.same("outside of it no window is hovered", ui.look(4), -1);
        Checks.same("nor comes one to the front", ui.place(7, 7), 7);
        ui.end();
    }

    /** "The popup has none": its upper 12 are like the rest of it. */
    private static void noTitle() {
        int[] rows = {200, 211, 212};
        for (int row : rows) {
            PanelFrames ui = openedAt(100, 200);
            ui.point(120, row);
            ui.press(true);
            tell(ui);
            Checks.same("pressed in row " + row, ui.look(0), 0);
            ui.press(false);
            tell(ui);
            Checks.same("it isn't collapsed", ui.place(8, 6), 0);
            Checks.same("one quad", ui.drawn(2), 4);
        }
    }

    private static void firstCursor() {
        int[][] places = {{0, 0}, {1, 2}, {999, 999}};
        for (int[] place : places) {
            PanelFrames ui = new PanelFrames();
            ui.point(place[0], place[1]);
            ui.begin();
            ui.open(5);
            ui.popup(5, 40, 30);
            ui.check(1);
            Checks.latest("4 right of and below it", ui,
                place[0] + 4, place[1] + 4, place[0] + 16, place[1] + 16);
        }
    }

    private static int scrollFrame(PanelFrames ui, int high, int lines) {
        ui.wheel(lines);
        ui.begin();
        ui.open(5);
        ui.popup(5, 100, 50);
        int scroll = ui.place(8, 4);
        ui.child(1, 20, high);
        ui.close();
        ui.close();
        Checks.same("HIGH", ui.place(8, 5), high);
        ui.end();
        ui.point(90, 40);
        return scroll;
    }

    /** "Of the popup: that height" is its VIEW. */
    private static void scrollUpToHighLessView() {
        int[] highs = {49, 50, 51, 59, 60, 61};
        for (int high : highs) {
            PanelFrames ui = new PanelFrames();
            scrollFrame(ui, high, 0);
            ui.begin();
            ui.popup(5, 100, 50);
            ui.child(1, 20, high);
            ui.close();
            ui.close();
            ui.end();
            ui.wheel(1);
            ui.begin();
            Checks.same("it is hovered", ui.look(4), 8);
            ui.popup(5, 100, 50);
            Checks.same("HIGH " + high, ui.place(8, 4), Math.max(0, Math.min(10, high - 50)));
        }
    }

    /** "No popup is open" behind a broken frame, told or not. */
    private static void brokenFrameClosesIt() {
        PanelFrames ui = withOpenPopup();
        Checks.refusedState("close", ui::close);
        Checks.same("opened in it", ui.look(9), -1);
        PanelFrames told = openedAt(100, 200);
        told.begin();
        told.popup(5, 40, 30);
        told.close();
        Checks.refusedState("close", told::close);
        Checks.same("told in it", told.look(9), -1);
        Checks.same("that doesn't count", told.place(8, 8), 0);
        Checks.no("nothing is left to dismiss", told.dismiss());
    }
}
