/** The boundary cases of what behaves: promises 14 to 18, and what the Terms say of items. */
public final class ItemEdgesTest {
    private static final int BUTTON = 0;
    private static final int CHECK = 1;
    private static final int SLIDER = 2;
    private static final int FIELD = 3;
    private static final int TREE = 4;
    private static final int KINDS = 5;

    public static void main(String[] args) {
        labels();
        widths();
        lowAndHigh();
        lowBelowHigh();
        argumentsAreAskedForFirst();
        sizes();
        sidesOfAnItem();
        pressedAtTheSides();
        releasedAtTheSides();
        cutByTheWindow();
        cutByTheTitle();
        cutByAChild();
        onlyOneIsHovered();
        nothingElseIsActive();
        activeAlready();
        releasedWithoutAPress();
        sliderAtEachPlace();
        sliderOfTwo();
        sliderBetweenItsEnds();
        sliderCutsWhatIsBehindThePoint();
        sliderWithoutThePress();
        sliderActiveWithoutThePress();
        sliderNumberIsBroughtBetween();
        sliderByKeysAtItsEnds();
        sliderByBothKeys();
        checkTurnsTheNumber();
        treeTurnsTheNumber();
        tabWithNoneOneAndTwo();
        tabFromAnUntoldOne();
        enterNeedsBoth();
        heldUntilTheFocusGoes();
        Checks.finish("ItemEdgesTest");
    }

    private static int tell(PanelFrames ui, int kind, int label, int width) {
        switch (kind) {
            case BUTTON: return ui.button(label, width) ? 1 : 0;
            case CHECK: return ui.check(label);
            case SLIDER: return ui.slider(label, width, 0, 9);
            case FIELD: return ui.field(label, width);
            default: return ui.tree(label, width) ? 1 : 0;
        }
    }

    /** "LABELS are 0 .. 999." */
    private static void labels() {
        for (int kind = 0; kind < KINDS; kind++) {
            int told = kind;
            Checks.argumentRange("label, kind " + kind, 0, 999, Checks::inWindow,
                (ui, value) -> tell(ui, told, value, 50));
        }
    }

    /** "No such label, or width (1 .. 200; of sliders 2 .. 200)." */
    private static void widths() {
        for (int kind = 0; kind < KINDS; kind++) {
            int told = kind;
            if (kind != CHECK) {
                Checks.argumentRange("width, kind " + kind, kind == SLIDER ? 2 : 1, 200, Checks::inWindow,
                    (ui, value) -> tell(ui, told, 5, value));
            }
        }
    }

    /** "They aren't -1000 .. 1000." */
    private static void lowAndHigh() {
        Checks.argumentRange("low", -1000, 999, Checks::inWindow, (ui, value) -> ui.slider(1, 50, value, 1000));
        Checks.argumentRange("high", -999, 1000, Checks::inWindow, (ui, value) -> ui.slider(1, 50, -1000, value));
        PanelFrames ui = Checks.inWindow();
        Checks.refusedArgument("both too low", () -> ui.slider(1, 50, -1002, -1001));
        Checks.refusedArgument("low too low", () -> ui.slider(1, 50, -1001, -1000));
        Checks.refusedArgument("high too high", () -> ui.slider(1, 50, 1000, 1001));
        Checks.refusedArgument("both too high", () -> ui.slider(1, 50, 1001, 1002));
        Checks.refusedArgument("far too far", () -> ui.slider(1, 50, Integer.MIN_VALUE, Integer.MAX_VALUE));
        Checks.same("the lowest", ui.slider(2, 50, -1000, -999), -999);
        Checks.same("the highest", ui.slider(3, 50, 999, 1000), 999);
        Checks.same("the widest", ui.slider(4, 50, -1000, 1000), 0);
    }

    /** "Low isn't below high." */
    private static void lowBelowHigh() {
        int[] highs = {-999, -1, 0, 1, 500, 1000};
        for (int high : highs) {
            PanelFrames ui = Checks.inWindow();
            Checks.refusedArgument("low as high " + high, () -> ui.slider(1, 50, high, high));
            Checks.refusedArgument("low above high " + high, () -> ui.slider(1, 50, high + 1, high));
            Checks.same("nothing is kept", ui.look(12), 0);
            Checks.same("low 1 below high " + high + " throws",
                Checks.thrownBy(() -> ui.slider(1, 50, high - 1, high)), 0);
        }
    }

    /** "IllegalStateException (likewise): no window is open"; the arguments come first. */
    private static void argumentsAreAskedForFirst() {
        for (int kind = 0; kind < KINDS; kind++) {
            int told = kind;
            PanelFrames ui = Checks.inFrame();
            Checks.refusedArgument("no window, a wrong label", () -> tell(ui, told, 1000, 50));
            Checks.same("the frame is on", ui.look(14), 1);
            Checks.refusedState("no window", () -> tell(ui, told, 999, 50));
            Checks.same("the frame is broken", ui.look(14), 0);
            ui.begin();
            ui.window(0, 0, 0, 100, 100);
            ui.close();
            Checks.refusedState("the window is closed", () -> tell(ui, told, 999, 50));
        }
    }

    /** "12 high"; "CHECK, 12 wide and high"; as wide as is said. */
    private static void sizes() {
        int[] widths = {2, 3, 199, 200};
        for (int kind = 0; kind < KINDS; kind++) {
            for (int width : widths) {
                PanelFrames ui = Checks.inWindow();
                tell(ui, kind, 1, width);
                Checks.latest("kind " + kind + ", width " + width, ui, 4, 16, 4 + (kind == CHECK ? 12 : width), 28);
            }
        }
    }

    /** One item of a kind at 14, 26, 40 wide (a check 12), in window 0. */
    private static int frame(PanelFrames ui, int kind) {
        ui.begin();
        ui.window(0, 10, 10, 100, 80);
        int answer = tell(ui, kind, 3, 40);
        if (kind == TREE && answer == 1) {
            ui.close();
        }
        ui.close();
        ui.end();
        return answer;
    }

    private static final int ID = 31004;

    private static int right(int kind) {
        return kind == CHECK ? 26 : 54;
    }

    private static boolean has(int kind, int x, int y) {
        return x >= 14 && x < right(kind) && y >= 26 && y < 38;
    }

    private static int[][] places(int kind) {
        int right = right(kind);
        return new int[][] {
            {13, 26}, {14, 26}, {15, 26}, {14, 25}, {14, 27}, {13, 25},
            {right - 2, 37}, {right - 1, 37}, {right, 37}, {right - 1, 36}, {right - 1, 38}, {right, 38},
            {13, 37}, {14, 37}, {14, 38}, {right, 26}, {right - 1, 26}, {right - 1, 25},
        };
    }

    /** "HOVERED, if its visible part has the mouse." */
    private static void sidesOfAnItem() {
        for (int kind = 0; kind < KINDS; kind++) {
            PanelFrames ui = new PanelFrames();
            frame(ui, kind);
            for (int[] place : places(kind)) {
                ui.point(place[0], place[1]);
                frame(ui, kind);
                boolean has = has(kind, place[0], place[1]);
                String what = "kind " + kind + " at " + place[0] + ", " + place[1];
                Checks.same(what + ": hovered", ui.look(1), has ? ID : 0);
                Checks.same(what + ": colour", ui.vertex(8, 2), has ? 4 : 3);
            }
        }
    }

    private static void pressedAtTheSides() {
        for (int kind = 0; kind < KINDS; kind++) {
            for (int[] place : places(kind)) {
                PanelFrames ui = new PanelFrames();
                frame(ui, kind);
                ui.point(place[0], place[1]);
                ui.press(true);
                frame(ui, kind);
                boolean has = has(kind, place[0], place[1]);
                String what = "kind " + kind + " pressed at " + place[0] + ", " + place[1];
                Checks.same(what + ": active", ui.look(0), has ? ID : 0);
                Checks.same(what + ": focus", ui.look(2), has ? ID : 0);
                Checks.same(what + ": colour", ui.vertex(8, 2), has ? 5 : 3);
            }
        }
    }

    /** "If it is active, with RELEASED HERE, it is so no more, and is CLICKED if it is hovered." */
    private static void releasedAtTheSides() {
        int[] clickable = {BUTTON, CHECK, TREE};
        for (int kind : clickable) {
            for (int[] place : places(kind)) {
                PanelFrames ui = new PanelFrames();
                frame(ui, kind);
                ui.point(20, 30);
                ui.press(true);
                frame(ui, kind);
                ui.point(place[0], place[1]);
                ui.press(false);
                String what = "kind " + kind + " released at " + place[0] + ", " + place[1];
                Checks.same(what, frame(ui, kind), has(kind, place[0], place[1]) ? 1 : 0);
                Checks.same(what + ": active no more", ui.look(0), 0);
                Checks.same(what + ": the focus stays", ui.look(2), ID);
            }
        }
    }

    private static int hoveredIn(PanelFrames ui, int x, int y, int height) {
        ui.point(x, y);
        ui.begin();
        ui.window(0, 10, 10, 50, height);
        ui.button(3, 60);
        ui.close();
        ui.end();
        return ui.look(1);
    }

    /** "An item's VISIBLE part is where its rectangle meets the clip": right and lower side of a window. */
    private static void cutByTheWindow() {
        PanelFrames ui = new PanelFrames();
        hoveredIn(ui, 500, 500, 30);
        Checks.same("the window's last column", hoveredIn(ui, 59, 30, 30), ID);
        Checks.same("behind it", hoveredIn(ui, 60, 30, 30), 0);
        Checks.same("the item's last row", hoveredIn(ui, 20, 37, 30), ID);
        Checks.same("below it, in the window", hoveredIn(ui, 20, 38, 30), 0);
        PanelFrames low = new PanelFrames();
        lowFrame(low, 500, 500);
        Checks.same("the window's last row", lowFrame(low, 20, 39), Checks.idIn(0, 4));
        Checks.same("below it", lowFrame(low, 20, 40), 0);
    }

    /** A child of 7 rows, then button 4 from row 37 on, in a window that ends with row 39. */
    private static int lowFrame(PanelFrames ui, int x, int y) {
        ui.point(x, y);
        ui.begin();
        ui.window(0, 10, 10, 50, 30);
        ui.child(3, 10, 7);
        ui.close();
        ui.button(4, 40);
        Checks.latest("the button", ui, 14, 37, 54, 49);
        ui.close();
        ui.end();
        return ui.look(1);
    }

    /** Scrolled by 10, button 3 lies at 16 .. 28, the upper rows of it in the title (10 .. 22). */
    private static void cutByTheTitle() {
        int[] rows = {15, 16, 20, 21, 22, 23, 27, 28};
        for (int row : rows) {
            PanelFrames ui = new PanelFrames();
            ui.point(90, 50);
            for (int k = 0; k < 2; k++) {
                ui.begin();
                ui.window(0, 10, 10, 100, 62);
                ui.button(3, 40);
                ui.child(4, 40, 100);
                ui.close();
                ui.close();
                ui.end();
                ui.wheel(k == 0 ? 1 : 0);
            }
            Checks.same("scrolled", ui.place(0, 4), 10);
            ui.point(20, row);
            ui.begin();
            ui.window(0, 10, 10, 100, 62);
            ui.button(3, 40);
            Checks.latest("the button", ui, 14, 16, 54, 28);
            Checks.same("row " + row, ui.look(1), row >= 22 && row < 28 ? ID : 0);
        }
    }

    /** A child at 14, 26, 20 wide and 10 high; button 5 in it at 16, 28, 30 wide. */
    private static void cutByAChild() {
        int[][] places = {
            {15, 30}, {16, 30}, {33, 30}, {34, 30}, {20, 27}, {20, 28}, {20, 35}, {20, 36},
        };
        boolean[] hovered = {false, true, true, false, false, true, true, false};
        for (int k = 0; k < places.length; k++) {
            PanelFrames ui = new PanelFrames();
            ui.point(places[k][0], places[k][1]);
            for (int turn = 0; turn < 2; turn++) {
                ui.begin();
                ui.window(0, 10, 10, 100, 80);
                ui.child(4, 20, 10);
                Checks.latest("the child", ui, 14, 26, 34, 36);
                ui.button(5, 30);
                Checks.latest("the button", ui, 16, 28, 46, 40);
                ui.close();
                ui.close();
                ui.end();
            }
            Checks.same("at " + places[k][0] + ", " + places[k][1], ui.look(1),
                hovered[k] ? Checks.idIn(0, 4, 5) : 0);
        }
    }

    /** "Its window is the hovered one": windows over one another, with items at the same place. */
    private static void onlyOneIsHovered() {
        PanelFrames ui = new PanelFrames();
        ui.point(20, 30);
        for (int turn = 0; turn < 3; turn++) {
            ui.press(turn == 1);
            ui.begin();
            for (int window = 0; window < 3; window++) {
                ui.window(window, 10, 10, 100, 80);
                ui.button(3, 40);
                if (turn == 1) {
                    Checks.same("active in window " + window, ui.look(0), window < 2 ? 0 : Checks.idIn(2, 3));
                }
                ui.close();
            }
            Checks.same("hovered in turn " + turn, ui.look(1), turn == 0 ? 0 : Checks.idIn(2, 3));
            ui.end();
        }
    }

    /** "Nothing else is active (but its ID)"; "with PRESSED HERE and nothing active". */
    private static void nothingElseIsActive() {
        PanelFrames ui = new PanelFrames();
        ui.point(20, 30);
        frame(ui, BUTTON);
        ui.press(true);
        frame(ui, BUTTON);
        ui.press(false);
        ui.begin();
        ui.window(0, 10, 10, 100, 80);
        ui.child(3, 40, 12);
        ui.close();
        ui.button(4, 40);
        ui.close();
        ui.end();
        Checks.same("a child with its ID was told: it is active yet", ui.look(0), ID);
        ui.point(20, 46);
        ui.press(true);
        ui.begin();
        ui.window(0, 10, 10, 100, 80);
        ui.child(3, 40, 12);
        ui.close();
        ui.button(4, 40);
        Checks.latest("the mouse is on it", ui, 14, 42, 54, 54);
        Checks.same("another one isn't hovered", ui.look(1), 0);
        Checks.same("nor active", ui.look(0), ID);
        Checks.same("nor has it the focus", ui.look(2), ID);
        ui.button(3, 40);
        ui.close();
        ui.end();
        ui.point(20, 30);
        frame(ui, BUTTON);
        Checks.same("the active one itself is hovered", ui.look(1), ID);
    }

    /** An item of a kind is active, though the mouse is released: then a child with its ID was told. */
    private static PanelFrames withActiveForGood(int kind) {
        PanelFrames ui = new PanelFrames();
        ui.point(20, 30);
        frame(ui, kind);
        ui.press(true);
        frame(ui, kind);
        ui.press(false);
        ui.begin();
        ui.window(0, 10, 10, 100, 80);
        ui.child(3, 40, 12);
        ui.close();
        ui.close();
        ui.end();
        Checks.same("it is active", ui.look(0), ID);
        Checks.same("the mouse is released", ui.look(10), 0);
        Checks.same("and the child has the colour of it", ui.vertex(8, 2), 5);
        return ui;
    }

    /** "With PRESSED HERE and nothing active": not when it is active itself, so it doesn't get the focus. */
    private static void activeAlready() {
        PanelFrames ui = withActiveForGood(BUTTON);
        ui.key(Checks.TAB, true);
        ui.begin();
        ui.window(0, 10, 10, 100, 80);
        ui.button(3, 40);
        ui.button(4, 40);
        ui.close();
        ui.end();
        Checks.same("the focus went on", ui.look(2), Checks.idIn(0, 4));
        ui.press(true);
        ui.begin();
        ui.window(0, 10, 10, 100, 80);
        ui.button(3, 40);
        Checks.same("it is hovered", ui.look(1), ID);
        Checks.same("it is active", ui.look(0), ID);
        Checks.same("the focus stays", ui.look(2), Checks.idIn(0, 4));
    }

    private static void releasedWithoutAPress() {
        PanelFrames ui = new PanelFrames();
        frame(ui, BUTTON);
        ui.point(13, 30);
        ui.press(true);
        frame(ui, BUTTON);
        ui.point(14, 30);
        ui.press(false);
        Checks.same("pressed 1 beside it, released on it", frame(ui, BUTTON), 0);
    }

    private static int slide(PanelFrames ui, int x, int width, int low, int high) {
        ui.point(x, 20);
        ui.begin();
        ui.window(0, 0, 0, 300, 100);
        int value = ui.slider(3, width, low, high);
        ui.close();
        ui.end();
        return value;
    }

    /** Pressed on a slider at 4 .. 4 + width. */
    private static PanelFrames withActiveSlider(int width, int low, int high) {
        PanelFrames ui = new PanelFrames();
        slide(ui, 4, width, low, high);
        ui.press(true);
        Checks.same("pressed at its left end", slide(ui, 4, width, low, high), low);
        Checks.same("it is active", ui.look(0), ID);
        return ui;
    }

    /** "low + (x - left) * (high - low) / (width - 1), brought between them". */
    private static void sliderAtEachPlace() {
        PanelFrames ui = withActiveSlider(11, 0, 10);
        for (int x = 0; x < 20; x++) {
            Checks.same("11 wide, 0 .. 10, at " + x, slide(ui, x, 11, 0, 10), Math.max(0, Math.min(10, x - 4)));
        }
        Checks.same("at the screen's right end", slide(ui, 999, 11, 0, 10), 10);
    }

    private static void sliderOfTwo() {
        PanelFrames ui = withActiveSlider(2, 6, 9);
        Checks.same("left of it", slide(ui, 3, 2, 6, 9), 6);
        Checks.same("its first place", slide(ui, 4, 2, 6, 9), 6);
        Checks.same("its last place", slide(ui, 5, 2, 6, 9), 9);
        Checks.same("right of it", slide(ui, 6, 2, 6, 9), 9);
    }

    private static void sliderBetweenItsEnds() {
        PanelFrames ui = withActiveSlider(200, -1000, 1000);
        Checks.same("left of it", slide(ui, 3, 200, -1000, 1000), -1000);
        Checks.same("its last place", slide(ui, 203, 200, -1000, 1000), 1000);
        Checks.same("right of it", slide(ui, 204, 200, -1000, 1000), 1000);
        PanelFrames even = withActiveSlider(101, -50, 50);
        Checks.same("1 left of the middle", slide(even, 53, 101, -50, 50), -1);
        Checks.same("the middle", slide(even, 54, 101, -50, 50), 0);
        Checks.same("1 right of the middle", slide(even, 55, 101, -50, 50), 1);
    }

    /** "(without what is behind the point)". */
    private static void sliderCutsWhatIsBehindThePoint() {
        PanelFrames ui = withActiveSlider(101, 0, 3);
        int[] xs = {4, 37, 38, 70, 71, 103, 104, 105};
        int[] due = {0, 0, 1, 1, 2, 2, 3, 3};
        for (int k = 0; k < xs.length; k++) {
            Checks.same("0 .. 3 at " + xs[k], slide(ui, xs[k], 101, 0, 3), due[k]);
            Checks.same("7 .. 10 at " + xs[k], slide(ui, xs[k], 101, 7, 10), 7 + due[k]);
        }
    }

    /** "If it is active and the mouse is pressed." */
    private static void sliderWithoutThePress() {
        PanelFrames ui = new PanelFrames();
        slide(ui, 14, 101, 0, 100);
        Checks.same("hovered alone", slide(ui, 14, 101, 0, 100), 0);
        ui.press(true);
        Checks.same("pressed", slide(ui, 14, 101, 0, 100), 10);
        ui.press(false);
        Checks.same("released", slide(ui, 14, 101, 0, 100), 10);
        Checks.same("moved on", slide(ui, 24, 101, 0, 100), 10);
        ui.point(30, 40);
        ui.press(true);
        ui.begin();
        ui.window(0, 0, 0, 300, 100);
        Checks.same("pressed below it", ui.slider(3, 101, 0, 100), 10);
    }

    private static void sliderActiveWithoutThePress() {
        PanelFrames ui = withActiveForGood(SLIDER);
        int number = ui.kept(ID);
        ui.point(53, 30);
        Checks.same("active, but the mouse isn't pressed", frame(ui, SLIDER), number);
        Checks.same("it is hovered", ui.look(1), ID);
        Checks.same("it is active", ui.look(0), ID);
        ui.press(true);
        Checks.same("now it is", frame(ui, SLIDER), 9);
    }

    private static PanelFrames withNumber(int number) {
        PanelFrames ui = new PanelFrames();
        ui.key(Checks.TAB, true);
        if (number != 0) {
            slide(ui, 500, 50, number < 0 ? -1000 : number, number < 0 ? number : 1000);
        } else {
            slide(ui, 500, 50, 0, 1);
        }
        Checks.same("the number", ui.kept(ID), number);
        Checks.same("the focus", ui.look(2), ID);
        return ui;
    }

    /** "Its number, brought between low and high: this is kept, and answered." */
    private static void sliderNumberIsBroughtBetween() {
        int[] numbers = {-999, -6, -5, -4, 0, 4, 5, 6, 999};
        for (int number : numbers) {
            PanelFrames ui = withNumber(number);
            int due = Math.max(-5, Math.min(5, number));
            Checks.same(number + " in -5 .. 5", slide(ui, 500, 50, -5, 5), due);
            Checks.same(number + " in -5 .. 5, kept", ui.kept(ID), due);
            Checks.same(number + " in -5 .. 5, kept for good", slide(ui, 500, 50, -1000, 1000), due);
        }
    }

    private static int slideByKey(int number, int key) {
        PanelFrames ui = withNumber(number);
        ui.key(key, true);
        return slide(ui, 500, 50, -5, 5);
    }

    /** "With LEFT DOWN HERE 1 less, with RIGHT 1 more, if that is between them." */
    private static void sliderByKeysAtItsEnds() {
        Checks.same("LEFT at low", slideByKey(-5, Checks.LEFT), -5);
        Checks.same("LEFT 1 above low", slideByKey(-4, Checks.LEFT), -5);
        Checks.same("LEFT 2 above low", slideByKey(-3, Checks.LEFT), -4);
        Checks.same("LEFT below low: low", slideByKey(-6, Checks.LEFT), -5);
        Checks.same("LEFT at high", slideByKey(5, Checks.LEFT), 4);
        Checks.same("LEFT above high: 1 below high", slideByKey(6, Checks.LEFT), 4);
        Checks.same("RIGHT at high", slideByKey(5, Checks.RIGHT), 5);
        Checks.same("RIGHT 1 below high", slideByKey(4, Checks.RIGHT), 5);
        Checks.same("RIGHT 2 below high", slideByKey(3, Checks.RIGHT), 4);
        Checks.same("RIGHT above high: high", slideByKey(6, Checks.RIGHT), 5);
        Checks.same("RIGHT at low", slideByKey(-5, Checks.RIGHT), -4);
        Checks.same("RIGHT below low: 1 above low", slideByKey(-6, Checks.RIGHT), -4);
        Checks.same("LEFT at 0", slideByKey(0, Checks.LEFT), -1);
        Checks.same("RIGHT at 0", slideByKey(0, Checks.RIGHT), 1);
        Checks.same("HOME is nothing", slideByKey(3, Checks.HOME), 3);
        Checks.same("BACK is nothing", slideByKey(3, Checks.BACK), 3);
    }

    private static void sliderByBothKeys() {
        int[] numbers = {-4, 0, 4, 5};
        for (int number : numbers) {
            PanelFrames ui = withNumber(number);
            ui.key(Checks.RIGHT, true);
            ui.key(Checks.LEFT, true);
            Checks.same("LEFT, then RIGHT at " + number, slide(ui, 500, 50, -5, 5), number);
        }
        PanelFrames ui = withNumber(-5);
        ui.key(Checks.RIGHT, true);
        ui.key(Checks.LEFT, true);
        Checks.same("LEFT is refused at low, RIGHT isn't", slide(ui, 500, 50, -5, 5), -4);
    }

    private static int clicked(PanelFrames ui, int kind) {
        ui.key(Checks.ENTER, true);
        ui.key(Checks.ENTER, false);
        return frame(ui, kind);
    }

    private static PanelFrames focusedWithNumber(int number) {
        PanelFrames ui = new PanelFrames();
        ui.key(Checks.TAB, true);
        ui.begin();
        ui.window(0, 10, 10, 100, 80);
        ui.slider(3, 40, number - 1, number);
        if (number > 0) {
            ui.slider(3, 40, number, number + 1);
        }
        ui.close();
        ui.end();
        Checks.same("the number", ui.kept(ID), number);
        return ui;
    }

    /** "Clicked, its number becomes 0, if it isn't, else 1." */
    private static void checkTurnsTheNumber() {
        int[] numbers = {-2, -1, 0, 1, 2, 999};
        for (int number : numbers) {
            PanelFrames ui = focusedWithNumber(number);
            Checks.same("told with " + number, frame(ui, CHECK), number);
            Checks.same("clicked with " + number, clicked(ui, CHECK), number == 0 ? 1 : 0);
            Checks.same("kept", ui.kept(ID), number == 0 ? 1 : 0);
            Checks.same("clicked again", clicked(ui, CHECK), number == 0 ? 0 : 1);
        }
    }

    private static void treeTurnsTheNumber() {
        int[] numbers = {-2, -1, 0, 1, 2, 999};
        for (int number : numbers) {
            PanelFrames ui = focusedWithNumber(number);
            Checks.same("told with " + number, frame(ui, TREE), number == 0 ? 0 : 1);
            Checks.same("clicked with " + number, clicked(ui, TREE), number == 0 ? 1 : 0);
            Checks.same("kept", ui.kept(ID), number == 0 ? 1 : 0);
            Checks.same("clicked again", clicked(ui, TREE), number == 0 ? 0 : 1);
        }
    }

    private static int focusAfterTab(PanelFrames ui, int... labels) {
        ui.key(Checks.TAB, true);
        ui.key(Checks.TAB, false);
        ui.begin();
        ui.window(0, 10, 10, 100, 80);
        for (int label : labels) {
            ui.button(label, 40);
        }
        ui.close();
        ui.end();
        return ui.look(2);
    }

    /** "If nobody got the focus by (a), the first item told in it gets it (nobody, if there is none)". */
    private static void tabWithNoneOneAndTwo() {
        PanelFrames ui = new PanelFrames();
        Checks.same("none", focusAfterTab(ui), 0);
        Checks.same("one", focusAfterTab(ui, 1), Checks.idIn(0, 1));
        Checks.same("the same one", focusAfterTab(ui, 1), Checks.idIn(0, 1));
        Checks.same("two: the other", focusAfterTab(ui, 1, 2), Checks.idIn(0, 2));
        Checks.same("two: the first again", focusAfterTab(ui, 1, 2), Checks.idIn(0, 1));
        Checks.same("told before it: the first", focusAfterTab(ui, 2, 1), Checks.idIn(0, 2));
        Checks.same("none again", focusAfterTab(ui), 0);
    }

    private static void tabFromAnUntoldOne() {
        PanelFrames ui = new PanelFrames();
        focusAfterTab(ui, 1, 2);
        Checks.same("who had it isn't told: the first", focusAfterTab(ui, 3, 2), Checks.idIn(0, 3));
        Checks.same("told twice is one", focusAfterTab(ui, 3, 3, 2), Checks.idIn(0, 2));
        Checks.same("the last one: the first", focusAfterTab(ui, 3, 3, 2), Checks.idIn(0, 3));
    }

    /** "If it has the focus, with ENTER DOWN HERE, it is HELD; ... with ENTER UP HERE ... CLICKED." */
    private static void enterNeedsBoth() {
        PanelFrames ui = new PanelFrames();
        ui.key(Checks.ENTER, true);
        frame(ui, BUTTON);
        ui.key(Checks.TAB, true);
        frame(ui, BUTTON);
        Checks.same("ENTER went down before it had the focus", ui.look(3), 0);
        ui.key(Checks.ENTER, false);
        Checks.same("so it isn't clicked", frame(ui, BUTTON), 0);
        ui.key(Checks.ENTER, true);
        Checks.same("down", frame(ui, BUTTON), 0);
        Checks.same("held", ui.look(3), ID);
        ui.key(Checks.ENTER, true);
        Checks.same("down already", frame(ui, BUTTON), 0);
        Checks.same("held yet", ui.look(3), ID);
        ui.key(Checks.ENTER, false);
        Checks.same("up", frame(ui, BUTTON), 1);
        ui.key(Checks.ENTER, false);
        Checks.same("up already", frame(ui, BUTTON), 0);
    }

    /** "Nothing is held when the focus goes to another ID, or is gone." */
    private static void heldUntilTheFocusGoes() {
        PanelFrames ui = new PanelFrames();
        focusAfterTab(ui, 1, 2);
        ui.key(Checks.ENTER, true);
        Checks.same("TAB and ENTER: the one that got the focus", focusAfterTab(ui, 1, 2), Checks.idIn(0, 2));
        Checks.same("it is held", ui.look(3), Checks.idIn(0, 2));
        focusAfterTab(ui, 1, 2);
        Checks.same("the focus went on", ui.look(3), 0);
        ui.key(Checks.ENTER, false);
        ui.begin();
        ui.window(0, 10, 10, 100, 80);
        Checks.no("not clicked", ui.button(1, 40));
        ui.close();
        ui.end();
        ui.key(Checks.ENTER, true);
        ui.begin();
        ui.window(0, 10, 10, 100, 80);
        ui.button(1, 40);
        Checks.same("held", ui.look(3), Checks.idIn(0, 1));
        ui.close();
        ui.end();
        ui.begin();
        Checks.same("held until the frame ends", ui.look(3), Checks.idIn(0, 1));
        ui.end();
        Checks.same("the focus is gone", ui.look(2), 0);
        Checks.same("nothing is held", ui.look(3), 0);
    }
}
