/** Promises 9 and 24: windows, their order, how they move, collapse and scroll. */
public final class WindowsTest {
    public static void main(String[] args) {
        arguments();
        states();
        toldAtFirst();
        hoveredByRectangle();
        hoveredInFront();
        hoveredMustHaveBeenTold();
        pressInTitle();
        pressInTitleWhileActive();
        moving();
        movingEachWindow();
        movingNotWhenReleased();
        collapsing();
        movedIsNotCollapsed();
        collapsedHasNoInside();
        highAndScroll();
        scrollOfHoveredAlone();
        scrollIsBroughtBetween();
        Checks.finish("WindowsTest");
    }

    private static void arguments() {
        PanelFrames ui = new PanelFrames();
        ui.begin();
        Checks.refusedArgument("window -1", () -> ui.window(-1, 0, 0, 100, 100));
        Checks.refusedArgument("window 8", () -> ui.window(8, 0, 0, 100, 100));
        Checks.refusedArgument("x -101", () -> ui.window(0, -101, 0, 100, 100));
        Checks.refusedArgument("x 1000", () -> ui.window(0, 1000, 0, 100, 100));
        Checks.refusedArgument("y -101", () -> ui.window(0, 0, -101, 100, 100));
        Checks.refusedArgument("y 1000", () -> ui.window(0, 0, 1000, 100, 100));
        Checks.refusedArgument("width 39", () -> ui.window(0, 0, 0, 39, 100));
        Checks.refusedArgument("width 401", () -> ui.window(0, 0, 0, 401, 100));
        Checks.refusedArgument("height 29", () -> ui.window(0, 0, 0, 100, 29));
        Checks.refusedArgument("height 401", () -> ui.window(0, 0, 0, 100, 401));
        Checks.same("the frame is on", ui.look(14), 1);
        Checks.same("nothing was told", ui.place(0, 8), 0);
        Checks.yes("the smallest", ui.window(0, -100, 999, 40, 30));
        ui.close();
        Checks.yes("the biggest", ui.window(7, 999, -100, 400, 400));
        ui.close();
        ui.end();
        ui.begin();
        ui.window(0, 5, 5, 100, 100);
        ui.close();
        Checks.refusedArgument("the place counts later, too", () -> ui.window(7, 1000, 0, 100, 100));
        ui.end();
    }

    private static void states() {
        PanelFrames ui = new PanelFrames();
        Checks.refusedState("in no frame", () -> ui.window(0, 0, 0, 100, 100));
        Checks.same("it wasn't told", ui.place(0, 2), 0);
        ui.begin();
        ui.window(0, 0, 0, 100, 100);
        Checks.refusedState("something is open", () -> ui.window(1, 0, 0, 100, 100));
        ui.begin();
        ui.window(0, 0, 0, 100, 100);
        ui.close();
        Checks.refusedState("told already", () -> ui.window(0, 0, 0, 100, 100));
        ui.begin();
        ui.window(0, 0, 0, 100, 100);
        ui.close();
        ui.end();
        ui.begin();
        Checks.yes("in the next frame again", ui.window(0, 0, 0, 100, 100));
        ui.close();
        ui.end();
    }

    private static void toldAtFirst() {
        PanelFrames ui = new PanelFrames();
        ui.begin();
        ui.window(2, 30, 40, 100, 110);
        ui.close();
        ui.end();
        ui.begin();
        ui.window(2, 300, 400, 120, 130);
        Checks.same("left as told first", ui.place(2, 0), 30);
        Checks.same("top as told first", ui.place(2, 1), 40);
        Checks.same("width as told now", ui.place(2, 2), 120);
        Checks.same("height as told now", ui.place(2, 3), 130);
        ui.button(1, 10);
        Checks.latest("an item in it", ui, 34, 56, 44, 68);
        ui.close();
        ui.end();
    }

    private static void tell(PanelFrames ui, int... windows) {
        for (int window : windows) {
            ui.window(window, 50 * window, 50 * window, 100, 100);
            ui.close();
        }
    }

    private static int hoveredAt(PanelFrames ui, int x, int y, int... windows) {
        ui.point(x, y);
        ui.begin();
        int hovered = ui.look(4);
        tell(ui, windows);
        ui.end();
        return hovered;
    }

    private static void hoveredByRectangle() {
        PanelFrames ui = new PanelFrames();
        ui.begin();
        tell(ui, 2);
        ui.end();
        Checks.same("left top", hoveredAt(ui, 100, 100, 2), 2);
        Checks.same("left of it", hoveredAt(ui, 99, 100, 2), -1);
        Checks.same("above it", hoveredAt(ui, 100, 99, 2), -1);
        Checks.same("right bottom", hoveredAt(ui, 199, 199, 2), 2);
        Checks.same("right of it", hoveredAt(ui, 200, 199, 2), -1);
        Checks.same("below it", hoveredAt(ui, 199, 200, 2), -1);
        ui.point(180, 180);
        ui.begin();
        ui.window(2, 0, 0, 60, 60);
        ui.close();
        Checks.same("as it was in the frame before", ui.look(4), 2);
        ui.end();
        ui.begin();
        Checks.same("now it is smaller", ui.look(4), -1);
        ui.end();
    }

    private static void hoveredInFront() {
        PanelFrames ui = new PanelFrames();
        ui.begin();
        tell(ui, 2, 1);
        ui.end();
        Checks.same("2 is before 1, told in any order", hoveredAt(ui, 120, 120, 1, 2), 2);
        Checks.same("hovering alone changes no order", ui.place(2, 7), 2);
        Checks.same("1 alone is there", hoveredAt(ui, 60, 70, 1, 2), 1);
        Checks.same("1 in its place", ui.place(1, 7), 1);
        ui.press(true);
        ui.begin();
        Checks.same("1 comes to the front", ui.place(1, 7), 7);
        Checks.same("0 stays", ui.place(0, 7), 0);
        Checks.same("2 is one behind", ui.place(2, 7), 1);
        Checks.same("7 is one behind", ui.place(7, 7), 6);
        Checks.same("the popup is before all", ui.place(8, 7), 8);
        tell(ui, 1, 2);
        ui.end();
        ui.press(false);
        ui.begin();
        tell(ui, 1, 2);
        ui.end();
        Checks.same("1 is before 2", hoveredAt(ui, 120, 120, 1, 2), 1);
    }

    private static void hoveredMustHaveBeenTold() {
        PanelFrames ui = new PanelFrames();
        ui.point(120, 120);
        ui.begin();
        Checks.same("nothing told yet", ui.look(4), -1);
        tell(ui, 1, 2);
        Checks.same("told now is not before", ui.look(4), -1);
        ui.end();
        ui.begin();
        Checks.same("2 was told", ui.look(4), 2);
        tell(ui, 1);
        ui.end();
        ui.begin();
        Checks.same("2 was not told", ui.look(4), 1);
        ui.end();
        ui.begin();
        Checks.same("none was told", ui.look(4), -1);
        ui.end();
    }

    private static void frame(PanelFrames ui, int... windows) {
        ui.begin();
        tell(ui, windows);
        ui.end();
    }

    private static void pressInTitle() {
        PanelFrames ui = new PanelFrames();
        frame(ui, 1, 2);
        ui.point(60, 62);
        ui.press(true);
        frame(ui, 1, 2);
        Checks.same("below the title", ui.look(0), 0);
        ui.press(false);
        frame(ui, 1, 2);
        ui.point(60, 61);
        ui.press(true);
        ui.begin();
        Checks.same("not before it is told", ui.look(0), 0);
        tell(ui, 2);
        Checks.same("not by another one", ui.look(0), 0);
        tell(ui, 1);
        Checks.same("in the title", ui.look(0), 1001);
        ui.end();
        Checks.same("active behind the frame", ui.look(0), 1001);
        Checks.same("it has no focus", ui.look(2), 0);
        frame(ui, 2);
        Checks.same("not told: not active", ui.look(0), 0);
    }

    private static void pressInTitleWhileActive() {
        PanelFrames ui = new PanelFrames();
        frame(ui, 1);
        ui.point(60, 55);
        frame(ui, 1);
        frame(ui, 1);
        Checks.same("without a press nothing is active", ui.look(0), 0);
        ui.press(true);
        frame(ui, 1);
        ui.press(false);
        frame(ui, 1);
        Checks.same("released: no more", ui.look(0), 0);
    }

    private static void moving() {
        PanelFrames ui = new PanelFrames();
        frame(ui, 1, 2);
        ui.point(60, 55);
        ui.press(true);
        frame(ui, 1, 2);
        Checks.same("not in the frame of the press", ui.place(1, 0), 50);
        ui.point(63, 50);
        ui.point(65, 48);
        ui.begin();
        Checks.same("5 to the right, at once", ui.place(1, 0), 55);
        Checks.same("7 up, at once", ui.place(1, 1), 43);
        tell(ui, 1, 2);
        ui.end();
        Checks.same("others stay", ui.place(2, 0), 100);
        frame(ui, 1, 2);
        Checks.same("a still mouse moves nothing", ui.place(1, 0), 55);
        ui.point(0, 0);
        frame(ui, 1, 2);
        Checks.same("beyond the screen, left", ui.place(1, 0), -10);
        Checks.same("beyond the screen, top", ui.place(1, 1), -5);
        ui.press(false);
        frame(ui, 1, 2);
        ui.point(500, 500);
        frame(ui, 1, 2);
        Checks.same("released it stays", ui.place(1, 0), -10);
        Checks.same("it isn't collapsed", ui.place(1, 6), 0);
    }

    private static void movingNotWhenReleased() {
        PanelFrames ui = new PanelFrames();
        frame(ui, 1);
        ui.point(60, 55);
        ui.press(true);
        frame(ui, 1);
        ui.point(90, 95);
        ui.press(false);
        frame(ui, 1);
        Checks.same("point and release in one frame", ui.place(1, 0), 50);
        Checks.same("released elsewhere: not collapsed", ui.place(1, 6), 0);
        Checks.same("not active", ui.look(0), 0);
    }

    private static boolean turn(PanelFrames ui, boolean down) {
        ui.press(down);
        ui.begin();
        boolean whole = ui.window(1, 50, 50, 100, 100);
        ui.close();
        ui.end();
        return whole;
    }

    private static void collapsing() {
        PanelFrames ui = new PanelFrames();
        frame(ui, 1);
        ui.point(60, 55);
        Checks.yes("pressed", turn(ui, true));
        Checks.no("released: collapsed as it is told now", turn(ui, false));
        Checks.same("place 6", ui.place(1, 6), 1);
        Checks.same("height as it is told", ui.place(1, 3), 100);
        Checks.same("drawn 12 high", ui.vertex(2, 1), 62);
        Checks.same("hovered in its 12", hoveredAt(ui, 60, 61, 1), 1);
        Checks.same("not below", hoveredAt(ui, 60, 62, 1), -1);
        ui.point(70, 51);
        Checks.no("pressed", turn(ui, true));
        Checks.yes("released: no more collapsed", turn(ui, false));
        Checks.same("place 6 again", ui.place(1, 6), 0);
    }

    private static void movedIsNotCollapsed() {
        PanelFrames ui = new PanelFrames();
        frame(ui, 1);
        ui.point(60, 55);
        turn(ui, true);
        ui.point(61, 55);
        frame(ui, 1);
        Checks.yes("released 1 beside", turn(ui, false));
        ui.point(61, 55);
        turn(ui, true);
        ui.point(80, 80);
        frame(ui, 1);
        ui.point(61, 55);
        frame(ui, 1);
        Checks.no("there and back: where it was pressed", turn(ui, false));
    }

    private static void collapsedHasNoInside() {
        PanelFrames ui = new PanelFrames();
        frame(ui, 1);
        ui.point(60, 55);
        turn(ui, true);
        turn(ui, false);
        ui.begin();
        Checks.no("collapsed", ui.window(1, 0, 0, 100, 100));
        ui.button(3, 50);
        Checks.latest("items lie where they would", ui, 54, 66, 104, 78);
        Checks.same("it is open all the same", ui.look(13), 1);
        ui.close();
        Checks.same("items aren't drawn", ui.end(), 1);
        Checks.same("rectangle and title alone", ui.drawn(2), 8);
        Checks.same("HIGH counts", ui.place(1, 5), 12);
    }

    /** A window at 0, 0 with VIEW 50 and lines of buttons. */
    private static void lines(PanelFrames ui, int lines) {
        ui.begin();
        ui.window(0, 0, 0, 100, 62);
        for (int k = 0; k < lines; k++) {
            ui.button(k, 20);
        }
        ui.close();
        ui.end();
    }

    private static void highAndScroll() {
        PanelFrames ui = new PanelFrames();
        ui.point(90, 30);
        lines(ui, 0);
        Checks.same("HIGH without items", ui.place(0, 5), 0);
        lines(ui, 5);
        Checks.same("HIGH of five lines", ui.place(0, 5), 76);
        Checks.same("no scroll yet", ui.place(0, 4), 0);
        ui.wheel(1);
        ui.begin();
        ui.window(0, 0, 0, 100, 62);
        Checks.same("10 for a line", ui.place(0, 4), 10);
        ui.button(0, 20);
        Checks.latest("items go up", ui, 4, 6, 24, 18);
        ui.close();
        Checks.same("HIGH of one line, scrolled", ui.place(0, 5), 12);
        ui.end();
        lines(ui, 5);
        Checks.same("HIGH less VIEW is below 0", ui.place(0, 4), 0);
        ui.wheel(9);
        lines(ui, 5);
        Checks.same("at most HIGH less VIEW", ui.place(0, 4), 26);
        ui.wheel(-1);
        lines(ui, 5);
        Checks.same("back", ui.place(0, 4), 16);
        Checks.same("HIGH doesn't hang on the scroll", ui.place(0, 5), 76);
        ui.wheel(-9);
        lines(ui, 5);
        Checks.same("at least 0", ui.place(0, 4), 0);
    }

    private static void scrollOfHoveredAlone() {
        PanelFrames ui = new PanelFrames();
        ui.point(100, 30);
        lines(ui, 5);
        ui.wheel(1);
        lines(ui, 5);
        Checks.same("not the hovered window", ui.place(0, 4), 0);
        ui.point(99, 61);
        ui.wheel(1);
        lines(ui, 5);
        Checks.same("the hovered window", ui.place(0, 4), 10);
        ui.point(99, 0);
        ui.wheel(1);
        lines(ui, 5);
        Checks.same("in its title, too", ui.place(0, 4), 20);
    }

    private static void scrollIsBroughtBetween() {
        PanelFrames ui = new PanelFrames();
        ui.point(90, 30);
        lines(ui, 9);
        ui.wheel(9);
        lines(ui, 9);
        Checks.same("9 lines: 140 less 50", ui.place(0, 4), 90);
        ui.point(500, 500);
        ui.begin();
        ui.window(0, 0, 0, 100, 102);
        Checks.same("a greater VIEW brings it back", ui.place(0, 4), 50);
        ui.close();
        ui.end();
        lines(ui, 9);
        Checks.same("HIGH 0 brings it to 0", ui.place(0, 4), 0);
    }

    private static void movingEachWindow() {
        for (int window = 0; window < 8; window++) {
            PanelFrames ui = new PanelFrames();
            frame(ui, window);
            ui.point(50 * window + 5, 50 * window + 5);
            ui.press(true);
            frame(ui, window);
            ui.point(50 * window + 7, 50 * window + 4);
            frame(ui, window);
            Checks.same("window " + window + " moved right", ui.place(window, 0), 50 * window + 2);
            Checks.same("window " + window + " moved up", ui.place(window, 1), 50 * window - 1);
            ui.press(false);
            ui.begin();
            Checks.same("active until it is told", ui.look(0), 1000 + window);
            tell(ui, window);
            Checks.same("and no more so at once", ui.look(0), 0);
            ui.end();
        }
    }
}
