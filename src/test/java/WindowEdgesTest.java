/** The boundary cases of windows: promises 9 and 24, and what the Terms say of windows. */
public final class WindowEdgesTest {
    public static void main(String[] args) {
        arguments();
        argumentsAreAskedForFirst();
        placeCountsWhenToldFirst();
        eightWindows();
        toldTwice();
        rectangleHasItsSides();
        cornersOfTheScreen();
        barelyOnTheScreen();
        rectangleOfTheFrameBefore();
        toTheFront();
        toTheFrontNeedsAPress();
        titleHasItsSides();
        titleNeedsAPress();
        titleNeedsTheHoveredWindow();
        titleWhileSomethingIsActive();
        releasedWhereItWasPressed();
        collapsedIsTwelveHigh();
        collapsedShowsNothing();
        movesByEachStep();
        movesPastTheScreen();
        doesNotMoveUnlessPressed();
        doesNotMoveWhenPressedAnew();
        movesWithAPressThatIsNothing();
        activeEndsUntold();
        highOfNothing();
        highOfTheLowest();
        scrollUpToHighLessView();
        scrollDownToNothing();
        viewByOneStep();
        scrollNeedsTheHoveredWindow();
        firstCursor();
        answersBeforeItIsTold();
        Checks.finish("WindowEdgesTest");
    }

    /** "There is no such window, place, width (40 .. 400), height (30 .. 400)"; places -100 .. 999. */
    private static void arguments() {
        Checks.argumentRange("window", 0, 7, Checks::inFrame, (ui, value) -> ui.window(value, 0, 0, 100, 100));
        Checks.argumentRange("x", -100, 999, Checks::inFrame, (ui, value) -> ui.window(0, value, 0, 100, 100));
        Checks.argumentRange("y", -100, 999, Checks::inFrame, (ui, value) -> ui.window(0, 0, value, 100, 100));
        Checks.argumentRange("width", 40, 400, Checks::inFrame, (ui, value) -> ui.window(0, 0, 0, value, 100));
        Checks.argumentRange("height", 30, 400, Checks::inFrame, (ui, value) -> ui.window(0, 0, 0, 100, value));
    }

    private static void argumentsAreAskedForFirst() {
        PanelFrames ui = Checks.inWindow();
        Checks.refusedArgument("something is open", () -> ui.window(1, 0, 0, 39, 100));
        Checks.refusedArgument("and told already", () -> ui.window(0, 0, 0, 100, 401));
        Checks.same("the frame is on", ui.look(14), 1);
        Checks.same("the window is open", ui.look(13), 1);
        Checks.same("its width is as it was", ui.place(0, 2), 400);
        Checks.same("window 1 wasn't told", ui.place(1, 2), 0);
        ui.close();
        Checks.same("it ends", ui.end(), 1);
    }

    /** "At a place when it is so for the first time": later the place must fit, but doesn't count. */
    private static void placeCountsWhenToldFirst() {
        int[] places = {-100, -99, 998, 999};
        for (int place : places) {
            PanelFrames ui = Checks.inFrame();
            ui.window(3, place, -101 + 1000 - place, 40, 30);
            ui.close();
            ui.end();
            ui.begin();
            ui.window(3, 5, 6, 41, 31);
            Checks.same("left " + place, ui.place(3, 0), place);
            Checks.same("top", ui.place(3, 1), 899 - place);
            Checks.same("width as it is told now", ui.place(3, 2), 41);
            Checks.same("height as it is told now", ui.place(3, 3), 31);
            ui.close();
            Checks.refusedArgument("a wrong place later", () -> ui.window(4, 1000, 0, 100, 100));
            ui.end();
        }
    }

    private static void eightWindows() {
        PanelFrames ui = Checks.inFrame();
        for (int window = 0; window < 8; window++) {
            Checks.yes("window " + window, ui.window(window, window, window, 100, 100));
            ui.close();
        }
        for (int window = 0; window < 8; window++) {
            Checks.same("told: " + window, ui.place(window, 8), 1);
        }
        Checks.same("a command for each", ui.end(), 8);
    }

    /** "Or it was told in this frame": the same one, not another one, and not in the next frame. */
    private static void toldTwice() {
        for (int window = 0; window < 8; window++) {
            int same = window;
            PanelFrames ui = Checks.inFrame();
            ui.window(same, 0, 0, 100, 100);
            ui.close();
            Checks.yes("another one", ui.window((same + 1) % 8, 0, 0, 100, 100));
            ui.close();
            Checks.refusedState("the same one", () -> ui.window(same, 0, 0, 100, 100));
            Checks.same("the frame is broken", ui.look(14), 0);
            ui.begin();
            Checks.yes("in the next frame", ui.window(same, 0, 0, 100, 100));
        }
    }

    private static void frame(PanelFrames ui, int window, int x, int y, int width, int height) {
        ui.begin();
        ui.window(window, x, y, width, height);
        ui.close();
        ui.end();
    }

    private static int hoveredAt(PanelFrames ui, int x, int y) {
        ui.point(x, y);
        ui.begin();
        int hovered = ui.look(4);
        ui.window(2, 100, 200, 60, 70);
        ui.close();
        ui.end();
        return hovered;
    }

    /** "The places with left <= x < right and top <= y < bottom." */
    private static void rectangleHasItsSides() {
        PanelFrames ui = new PanelFrames();
        frame(ui, 2, 100, 200, 60, 70);
        int[] xs = {99, 100, 101, 158, 159, 160};
        int[] ys = {199, 200, 201, 268, 269, 270};
        for (int x : xs) {
            for (int y : ys) {
                boolean has = x >= 100 && x < 160 && y >= 200 && y < 270;
                Checks.same("hovered at " + x + ", " + y, hoveredAt(ui, x, y), has ? 2 : -1);
            }
        }
    }

    private static int hoveredOf(int window, int x, int y, int width, int height, int mouseX, int mouseY) {
        PanelFrames ui = new PanelFrames();
        frame(ui, window, x, y, width, height);
        ui.point(mouseX, mouseY);
        ui.begin();
        return ui.look(4);
    }

    private static void cornersOfTheScreen() {
        Checks.same("at the last place", hoveredOf(5, 999, 999, 100, 100, 999, 999), 5);
        Checks.same("left of it", hoveredOf(5, 999, 999, 100, 100, 998, 999), -1);
        Checks.same("above it", hoveredOf(5, 999, 999, 100, 100, 999, 998), -1);
        Checks.same("at the first place", hoveredOf(5, 0, 0, 40, 30, 0, 0), 5);
        Checks.same("its last place", hoveredOf(5, 0, 0, 40, 30, 39, 29), 5);
        Checks.same("right of that", hoveredOf(5, 0, 0, 40, 30, 40, 29), -1);
        Checks.same("below that", hoveredOf(5, 0, 0, 40, 30, 39, 30), -1);
    }

    private static void barelyOnTheScreen() {
        Checks.same("100 wide at -100", hoveredOf(5, -100, 0, 100, 50, 0, 0), -1);
        Checks.same("101 wide at -100", hoveredOf(5, -100, 0, 101, 50, 0, 0), 5);
        Checks.same("1 right of it", hoveredOf(5, -100, 0, 101, 50, 1, 0), -1);
        Checks.same("100 high at -100", hoveredOf(5, 0, -100, 50, 100, 0, 0), -1);
        Checks.same("101 high at -100", hoveredOf(5, 0, -100, 50, 101, 0, 0), 5);
        Checks.same("1 below it", hoveredOf(5, 0, -100, 50, 101, 0, 1), -1);
    }

    /** "Whose rectangle, as it was then, has the mouse." */
    private static void rectangleOfTheFrameBefore() {
        PanelFrames ui = new PanelFrames();
        ui.point(50, 50);
        frame(ui, 1, 0, 0, 50, 100);
        ui.begin();
        Checks.same("50 wide", ui.look(4), -1);
        ui.window(1, 0, 0, 51, 51);
        Checks.same("51 wide: not before the next frame", ui.look(4), -1);
        ui.close();
        ui.end();
        ui.begin();
        Checks.same("51 wide and high", ui.look(4), 1);
        ui.window(1, 0, 0, 51, 50);
        Checks.same("50 high: until the next frame", ui.look(4), 1);
        ui.close();
        ui.end();
        ui.begin();
        Checks.same("50 high", ui.look(4), -1);
    }

    private static void tellAll(PanelFrames ui) {
        ui.begin();
        for (int window = 0; window < 8; window++) {
            ui.window(window, 100 * window, 0, 100, 100);
            ui.close();
        }
        ui.end();
    }

    private static void pressOn(PanelFrames ui, int window) {
        ui.press(false);
        tellAll(ui);
        ui.point(100 * window + 50, 50);
        ui.press(true);
        tellAll(ui);
    }

    private static void isOrder(String what, PanelFrames ui, int... order) {
        for (int place = 0; place < order.length; place++) {
            Checks.same(what + ": window " + order[place], ui.place(order[place], 7), place);
        }
        Checks.same(what + ": the popup is before all", ui.place(8, 7), 8);
    }

    /** "They have an ORDER, from behind to the front"; "with PRESSED HERE it comes to the front". */
    private static void toTheFront() {
        PanelFrames ui = new PanelFrames();
        isOrder("at first", ui, 0, 1, 2, 3, 4, 5, 6, 7);
        pressOn(ui, 7);
        isOrder("the one in front", ui, 0, 1, 2, 3, 4, 5, 6, 7);
        pressOn(ui, 0);
        isOrder("the last one behind", ui, 1, 2, 3, 4, 5, 6, 7, 0);
        pressOn(ui, 7);
        isOrder("the one behind the front", ui, 1, 2, 3, 4, 5, 6, 0, 7);
        pressOn(ui, 2);
        isOrder("the one before the last", ui, 1, 3, 4, 5, 6, 0, 7, 2);
    }

    private static void toTheFrontNeedsAPress() {
        PanelFrames ui = new PanelFrames();
        tellAll(ui);
        ui.point(350, 50);
        tellAll(ui);
        isOrder("hovered alone", ui, 0, 1, 2, 3, 4, 5, 6, 7);
        ui.point(350, 100);
        ui.press(true);
        tellAll(ui);
        isOrder("pressed 1 below it", ui, 0, 1, 2, 3, 4, 5, 6, 7);
        ui.point(350, 50);
        tellAll(ui);
        isOrder("pressed earlier", ui, 0, 1, 2, 3, 4, 5, 6, 7);
        ui.press(true);
        tellAll(ui);
        isOrder("a press that is nothing", ui, 0, 1, 2, 3, 4, 5, 6, 7);
        ui.press(false);
        tellAll(ui);
        isOrder("a release", ui, 0, 1, 2, 3, 4, 5, 6, 7);
        ui.point(350, 99);
        ui.press(true);
        ui.begin();
        isOrder("pressed, when the frame begins", ui, 0, 1, 2, 4, 5, 6, 7, 3);
    }

    private static int activeAfterPressAt(int x, int y) {
        PanelFrames ui = new PanelFrames();
        frame(ui, 2, 100, 200, 60, 70);
        ui.point(x, y);
        ui.press(true);
        frame(ui, 2, 100, 200, 60, 70);
        return ui.look(0);
    }

    /** "Its rectangle without the upper 12, the TITLE"; "with PRESSED HERE in its title". */
    private static void titleHasItsSides() {
        int[] xs = {99, 100, 101, 158, 159, 160};
        int[] ys = {199, 200, 201, 210, 211, 212, 213};
        for (int x : xs) {
            for (int y : ys) {
                boolean has = x >= 100 && x < 160 && y >= 200 && y < 212;
                Checks.same("active at " + x + ", " + y, activeAfterPressAt(x, y), has ? 1002 : 0);
            }
        }
    }

    private static void titleNeedsAPress() {
        PanelFrames ui = new PanelFrames();
        frame(ui, 2, 100, 200, 60, 70);
        ui.point(110, 212);
        ui.press(true);
        frame(ui, 2, 100, 200, 60, 70);
        ui.point(110, 211);
        frame(ui, 2, 100, 200, 60, 70);
        Checks.same("pressed earlier, below it", ui.look(0), 0);
        ui.press(true);
        frame(ui, 2, 100, 200, 60, 70);
        Checks.same("a press that is nothing", ui.look(0), 0);
        ui.press(false);
        frame(ui, 2, 100, 200, 60, 70);
        Checks.same("a release", ui.look(0), 0);
        Checks.same("it isn't collapsed by that", ui.place(2, 6), 0);
    }

    private static void titleNeedsTheHoveredWindow() {
        PanelFrames ui = new PanelFrames();
        ui.point(110, 205);
        ui.press(true);
        frame(ui, 2, 100, 200, 60, 70);
        Checks.same("it wasn't told in the frame before", ui.look(0), 0);
        ui.press(false);
        for (int k = 0; k < 2; k++) {
            ui.begin();
            ui.window(2, 100, 200, 60, 70);
            ui.close();
            ui.window(3, 105, 190, 60, 70);
            ui.close();
            ui.end();
            ui.press(true);
        }
        Checks.same("another one is before it", ui.look(0), 0);
        Checks.same("that one is hovered", ui.look(4), 3);
    }

    /** Button 1 in window 0 is active for good: a child with its ID is told when the mouse is released. */
    private static PanelFrames withActiveForGood() {
        PanelFrames ui = new PanelFrames();
        ui.point(10, 20);
        for (int k = 0; k < 3; k++) {
            if (k > 0) {
                ui.press(k == 1);
            }
            ui.begin();
            ui.window(0, 0, 0, 100, 100);
            if (k < 2) {
                ui.button(1, 40);
            } else {
                ui.child(1, 10, 10);
                ui.close();
            }
            ui.close();
            ui.end();
        }
        Checks.same("the mouse is released", ui.look(10), 0);
        Checks.same("and the button's ID is active", ui.look(0), Checks.idIn(0, 1));
        return ui;
    }

    /** "With PRESSED HERE in its title and nothing active, it is active." */
    private static void titleWhileSomethingIsActive() {
        PanelFrames ui = withActiveForGood();
        ui.point(10, 5);
        ui.press(true);
        ui.begin();
        Checks.same("the window is hovered", ui.look(4), 0);
        ui.window(0, 0, 0, 100, 100);
        Checks.same("but something else is active", ui.look(0), Checks.idIn(0, 1));
        ui.close();
        ui.end();
        Checks.same("until it isn't told", ui.look(0), 0);
        ui.press(false);
        frame(ui, 0, 0, 0, 100, 100);
        ui.press(true);
        frame(ui, 0, 0, 0, 100, 100);
        Checks.same("now nothing was", ui.look(0), 1000);
    }

    private static int collapsedAfter(int stepX, int stepY) {
        PanelFrames ui = new PanelFrames();
        frame(ui, 2, 100, 200, 60, 70);
        ui.point(110, 205);
        ui.press(true);
        frame(ui, 2, 100, 200, 60, 70);
        ui.point(110 + stepX, 205 + stepY);
        ui.press(false);
        frame(ui, 2, 100, 200, 60, 70);
        Checks.same("active no more", ui.look(0), 0);
        return ui.place(2, 6);
    }

    /** "If the mouse is where it was pressed, it is collapsed." */
    private static void releasedWhereItWasPressed() {
        Checks.same("there", collapsedAfter(0, 0), 1);
        Checks.same("1 right", collapsedAfter(1, 0), 0);
        Checks.same("1 left", collapsedAfter(-1, 0), 0);
        Checks.same("1 below", collapsedAfter(0, 1), 0);
        Checks.same("1 above", collapsedAfter(0, -1), 0);
        Checks.same("across", collapsedAfter(1, -1), 0);
    }

    private static PanelFrames collapsed() {
        PanelFrames ui = new PanelFrames();
        frame(ui, 2, 100, 200, 60, 70);
        ui.point(110, 205);
        ui.press(true);
        frame(ui, 2, 100, 200, 60, 70);
        ui.press(false);
        frame(ui, 2, 100, 200, 60, 70);
        return ui;
    }

    /** "As wide and high as it is told now, 12 high if it is COLLAPSED." */
    private static void collapsedIsTwelveHigh() {
        PanelFrames ui = collapsed();
        Checks.same("its height as it is told", ui.place(2, 3), 70);
        Checks.same("the rectangle's last row", ui.vertex(2, 1), 212);
        Checks.same("above it", hoveredAt(ui, 110, 199), -1);
        Checks.same("its first row", hoveredAt(ui, 110, 200), 2);
        Checks.same("its last row", hoveredAt(ui, 159, 211), 2);
        Checks.same("below it", hoveredAt(ui, 159, 212), -1);
        Checks.same("right of it", hoveredAt(ui, 160, 211), -1);
        ui.point(110, 211);
        ui.press(true);
        frame(ui, 2, 100, 200, 60, 70);
        Checks.same("its last row is of the title", ui.look(0), 1002);
        ui.press(false);
        frame(ui, 2, 100, 200, 60, 70);
        Checks.same("and it is collapsed no more", ui.place(2, 6), 0);
        Checks.same("as it is told now, already", ui.vertex(2, 1), 270);
    }

    private static void collapsedShowsNothing() {
        PanelFrames ui = collapsed();
        ui.point(110, 211);
        ui.begin();
        Checks.no("collapsed", ui.window(2, 100, 200, 60, 70));
        ui.child(4, 50, 50);
        ui.check(1);
        ui.close();
        ui.button(1, 50);
        Checks.latest("items have their places", ui, 104, 270, 154, 282);
        Checks.same("none is hovered", ui.look(1), 0);
        ui.close();
        Checks.same("HIGH is as ever", ui.place(2, 5), 66);
        Checks.same("one command", ui.end(), 1);
        Checks.same("rectangle and title", ui.drawn(2), 8);
    }

    /** "It moves as far as the mouse has since the frame before began." */
    private static void movesByEachStep() {
        int[][] steps = {{0, 0}, {1, 0}, {-1, 0}, {0, 1}, {0, -1}, {110, 205}, {-110, -205}};
        for (int[] step : steps) {
            PanelFrames ui = new PanelFrames();
            frame(ui, 2, 100, 200, 60, 70);
            ui.point(110, 205);
            ui.press(true);
            frame(ui, 2, 100, 200, 60, 70);
            ui.point(500, 600);
            ui.point(110 + step[0], 205 + step[1]);
            frame(ui, 2, 100, 200, 60, 70);
            Checks.same("left, by " + step[0], ui.place(2, 0), 100 + step[0]);
            Checks.same("top, by " + step[1], ui.place(2, 1), 200 + step[1]);
        }
    }

    private static void movesPastTheScreen() {
        PanelFrames ui = new PanelFrames();
        frame(ui, 2, -100, -100, 200, 200);
        Checks.same("its title is above the screen", ui.vertex(0, 1), -100);
        ui = new PanelFrames();
        frame(ui, 2, -100, 5, 200, 200);
        ui.point(99, 16);
        ui.press(true);
        frame(ui, 2, -100, 5, 200, 200);
        ui.point(0, 0);
        frame(ui, 2, -100, 5, 200, 200);
        Checks.same("left of all places", ui.place(2, 0), -199);
        Checks.same("above the screen", ui.place(2, 1), -11);
        ui.point(999, 999);
        frame(ui, 2, -100, 5, 200, 200);
        Checks.same("to the right", ui.place(2, 0), 800);
        Checks.same("to below", ui.place(2, 1), 988);
    }

    /** "And the mouse is pressed, but not PRESSED HERE." */
    private static void doesNotMoveUnlessPressed() {
        PanelFrames ui = new PanelFrames();
        frame(ui, 2, 100, 200, 60, 70);
        ui.point(110, 205);
        ui.press(true);
        frame(ui, 2, 100, 200, 60, 70);
        Checks.same("PRESSED HERE", ui.place(2, 0), 100);
        ui.point(112, 205);
        ui.press(false);
        frame(ui, 2, 100, 200, 60, 70);
        Checks.same("moved and released in one frame", ui.place(2, 0), 100);
        ui.point(113, 205);
        frame(ui, 2, 100, 200, 60, 70);
        Checks.same("released", ui.place(2, 0), 100);
    }

    /** Window 1, and in it a child with the ID of window 0. */
    private static void frameWithTheIdOfWindow0(PanelFrames ui) {
        int[] labels = Checks.labelsFor(1, 1000);
        int last = labels.length - 1;
        ui.begin();
        ui.window(1, 500, 500, 100, 100);
        for (int k = 0; k < last; k++) {
            ui.scope(labels[k]);
        }
        ui.child(labels[last], 10, 10);
        for (int k = 0; k < labels.length; k++) {
            ui.close();
        }
        ui.close();
        ui.end();
    }

    /** "But not PRESSED HERE": the ID stays active over a release, since a child with it is told. */
    private static void doesNotMoveWhenPressedAnew() {
        PanelFrames ui = new PanelFrames();
        frame(ui, 0, 100, 200, 60, 70);
        ui.point(110, 205);
        ui.press(true);
        frame(ui, 0, 100, 200, 60, 70);
        ui.press(false);
        frameWithTheIdOfWindow0(ui);
        Checks.same("active, though the mouse is released", ui.look(0), 1000);
        ui.point(120, 215);
        ui.press(true);
        ui.begin();
        Checks.same("active when it is pressed again", ui.look(0), 1000);
        Checks.same("its left stays", ui.place(0, 0), 100);
        Checks.same("its top stays", ui.place(0, 1), 200);
    }

    private static void movesWithAPressThatIsNothing() {
        PanelFrames ui = new PanelFrames();
        frame(ui, 2, 100, 200, 60, 70);
        ui.point(110, 205);
        ui.press(true);
        frame(ui, 2, 100, 200, 60, 70);
        ui.point(115, 205);
        ui.press(true);
        frame(ui, 2, 100, 200, 60, 70);
        Checks.same("the press was nothing, so it moves", ui.place(2, 0), 105);
        ui.press(false);
        frame(ui, 2, 100, 200, 60, 70);
        Checks.same("nor was it pressed there", ui.place(2, 6), 0);
    }

    /** "An ID that is active is so no more, if no window or item with it was told in the frame." */
    private static void activeEndsUntold() {
        PanelFrames ui = new PanelFrames();
        frame(ui, 2, 100, 200, 60, 70);
        ui.point(110, 205);
        ui.press(true);
        frame(ui, 2, 100, 200, 60, 70);
        ui.begin();
        ui.window(3, 500, 500, 60, 70);
        ui.close();
        Checks.same("as long as the frame is on", ui.look(0), 1002);
        ui.end();
        Checks.same("another one was told", ui.look(0), 0);
        ui.point(120, 205);
        frame(ui, 2, 100, 200, 60, 70);
        Checks.same("so it doesn't move", ui.place(2, 0), 100);
    }

    private static int highWith(int child) {
        PanelFrames ui = Checks.inFrame();
        ui.window(0, 0, 0, 100, 62);
        if (child > 0) {
            ui.child(1, 20, child);
            ui.close();
        }
        ui.close();
        return ui.place(0, 5);
    }

    /** "HIGH is how far the lowest bottom of an item in it is below the first cursor, at least 0." */
    private static void highOfNothing() {
        Checks.same("without an item", highWith(0), 0);
        Checks.same("the lowest item", highWith(1), 1);
        Checks.same("one more", highWith(2), 2);
        Checks.same("the highest child", highWith(200), 200);
        PanelFrames ui = Checks.inWindow();
        ui.group();
        ui.close();
        ui.close();
        Checks.same("an empty group", ui.place(0, 5), 0);
        ui.end();
        ui.begin();
        ui.window(0, 0, 0, 400, 400);
        ui.scope(1);
        ui.close();
        ui.close();
        Checks.same("a scope is no item", ui.place(0, 5), 0);
    }

    private static void highOfTheLowest() {
        PanelFrames ui = Checks.inWindow();
        ui.child(1, 20, 40);
        ui.button(1, 10);
        ui.button(2, 10);
        ui.button(3, 10);
        ui.button(4, 10);
        ui.close();
        ui.near();
        ui.button(5, 10);
        ui.close();
        Checks.same("the child is lower than what is near; what is in it doesn't count", ui.place(0, 5), 40);
        ui.end();
        ui.begin();
        ui.window(0, 0, 0, 400, 400);
        ui.button(5, 10);
        Checks.same("until it is closed", ui.place(0, 5), 40);
        ui.close();
        Checks.same("then anew", ui.place(0, 5), 12);
    }

    /** Window 0 with VIEW 50 and HIGH as said, hovered beside its item. */
    private static int scrollFrame(PanelFrames ui, int high, int lines) {
        ui.wheel(lines);
        ui.begin();
        ui.window(0, 0, 0, 100, 62);
        int scroll = ui.place(0, 4);
        ui.child(1, 20, high);
        ui.close();
        ui.close();
        ui.end();
        return scroll;
    }

    private static PanelFrames withHigh(int high) {
        PanelFrames ui = new PanelFrames();
        ui.point(90, 40);
        scrollFrame(ui, high, 0);
        return ui;
    }

    /** "Brought between 0 and HIGH less VIEW (0, if that is below 0)." */
    private static void scrollUpToHighLessView() {
        int[] highs = {1, 49, 50, 51, 59, 60, 61, 70, 200};
        for (int high : highs) {
            PanelFrames ui = withHigh(high);
            int most = Math.max(0, high - 50);
            Checks.same("HIGH " + high + ", 1 line", scrollFrame(ui, high, 1), Math.min(10, most));
            Checks.same("HIGH " + high + ", 2 lines", scrollFrame(ui, high, 1), Math.min(20, most));
            Checks.same("HIGH " + high + ", many lines", scrollFrame(ui, high, 9), Math.min(110, most));
            Checks.same("HIGH " + high + ", as far as it goes", scrollFrame(ui, high, 9), most);
            Checks.same("HIGH " + high + ", no line", scrollFrame(ui, high, 0), most);
        }
    }

    private static void scrollDownToNothing() {
        int[] highs = {50, 59, 60, 61};
        for (int high : highs) {
            PanelFrames ui = withHigh(high);
            scrollFrame(ui, high, 9);
            Checks.same("HIGH " + high + ", 1 line back", scrollFrame(ui, high, -1), Math.max(0, high - 60));
            Checks.same("HIGH " + high + ", 2 lines back", scrollFrame(ui, high, -1), 0);
            Checks.same("HIGH " + high + ", 3 lines back", scrollFrame(ui, high, -9), 0);
            Checks.same("HIGH " + high + ", 1 line", scrollFrame(ui, high, 1), Math.min(10, high - 50));
        }
    }

    /** "Its VIEW is the height it is told with, less 12." */
    private static void viewByOneStep() {
        int[] heights = {61, 62, 63, 111, 112, 113, 400};
        for (int height : heights) {
            PanelFrames ui = withHigh(100);
            scrollFrame(ui, 100, 9);
            ui.begin();
            ui.window(0, 0, 0, 100, height);
            Checks.same("height " + height, ui.place(0, 4), Math.max(0, Math.min(50, 100 - (height - 12))));
        }
        PanelFrames ui = withHigh(100);
        ui.wheel(9);
        ui.begin();
        ui.window(0, 0, 0, 100, 30);
        Checks.same("the lowest window", ui.place(0, 4), 82);
    }

    private static void scrollNeedsTheHoveredWindow() {
        int[][] places = {{100, 40, 0}, {99, 40, 10}, {90, 62, 0}, {90, 61, 10}, {99, 0, 10}, {0, 61, 10}};
        for (int[] place : places) {
            PanelFrames ui = withHigh(100);
            ui.point(place[0], place[1]);
            Checks.same("at " + place[0] + ", " + place[1], scrollFrame(ui, 100, 1), place[2]);
        }
    }

    /** "4 right of its left, and 4 below its clip's upper side without the screen, less the scroll." */
    private static void firstCursor() {
        int[][] places = {{-100, -100}, {-5, -17}, {-4, -16}, {0, 0}, {999, 999}};
        for (int[] place : places) {
            PanelFrames ui = Checks.inFrame();
            ui.window(0, place[0], place[1], 40, 30);
            ui.check(1);
            int left = place[0] + 4;
            int top = place[1] + 16;
            Checks.latest("at " + place[0] + ", " + place[1], ui, left, top, left + 12, top + 12);
        }
        PanelFrames ui = withHigh(51);
        ui.wheel(1);
        ui.begin();
        ui.window(0, 0, 0, 100, 62);
        ui.check(1);
        Checks.latest("scrolled by 1", ui, 4, 15, 16, 27);
    }

    /** "All 0 as long as it wasn't told (7: its place)." */
    private static void answersBeforeItIsTold() {
        PanelFrames ui = Checks.inFrame();
        ui.window(3, 10, 20, 100, 100);
        for (int what = 0; what < 9; what++) {
            Checks.same("window 2, what " + what, ui.place(2, what), what == 7 ? 2 : 0);
            Checks.same("window 4, what " + what, ui.place(4, what), what == 7 ? 4 : 0);
            Checks.same("the popup, what " + what, ui.place(8, what), what == 7 ? 8 : 0);
        }
        int[] due = {10, 20, 100, 100, 0, 0, 0, 3, 1};
        for (int what = 0; what < 9; what++) {
            Checks.same("window 3, what " + what, ui.place(3, what), due[what]);
        }
    }
}
