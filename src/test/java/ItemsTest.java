/** Promises 14 to 18: buttons, checks, sliders and trees, and how items behave. */
public final class ItemsTest {
    public static void main(String[] args) {
        arguments();
        hovering();
        hoveringNeedsTheWindow();
        clicking();
        releasedBeside();
        nothingElseWhileActive();
        pressedBeside();
        colours();
        checks();
        checkOfAnotherNumber();
        sliderByMouse();
        sliderCutsTheFraction();
        sliderOnRelease();
        sliderPressedBeside();
        sliderIsBroughtBetween();
        sliderByKeys();
        trees();
        tabGoesRound();
        tabWithoutItems();
        tabWithOneId();
        enterHoldsAndClicks();
        enterInOneFrame();
        heldGoesWithTheFocus();
        focusByPress();
        fieldNeedsTheFocus();
        Checks.finish("ItemsTest");
    }

    private static void arguments() {
        PanelFrames ui = new PanelFrames();
        ui.begin();
        ui.window(0, 0, 0, 300, 300);
        Checks.refusedArgument("button label -1", () -> ui.button(-1, 10));
        Checks.refusedArgument("button label 1000", () -> ui.button(1000, 10));
        Checks.refusedArgument("button width 0", () -> ui.button(1, 0));
        Checks.refusedArgument("button width 201", () -> ui.button(1, 201));
        Checks.refusedArgument("check label -1", () -> ui.check(-1));
        Checks.refusedArgument("check label 1000", () -> ui.check(1000));
        Checks.refusedArgument("slider label -1", () -> ui.slider(-1, 10, 0, 1));
        Checks.refusedArgument("slider label 1000", () -> ui.slider(1000, 10, 0, 1));
        Checks.refusedArgument("slider width 1", () -> ui.slider(1, 1, 0, 1));
        Checks.refusedArgument("slider width 201", () -> ui.slider(1, 201, 0, 1));
        Checks.refusedArgument("slider low above high", () -> ui.slider(1, 10, 2, 1));
        Checks.refusedArgument("slider low as high", () -> ui.slider(1, 10, 1, 1));
        Checks.refusedArgument("slider low -1001", () -> ui.slider(1, 10, -1001, 1));
        Checks.refusedArgument("slider high 1001", () -> ui.slider(1, 10, 1, 1001));
        Checks.refusedArgument("slider both below", () -> ui.slider(1, 10, -2000, -1500));
        Checks.refusedArgument("field label -1", () -> ui.field(-1, 10));
        Checks.refusedArgument("field label 1000", () -> ui.field(1000, 10));
        Checks.refusedArgument("field width 0", () -> ui.field(1, 0));
        Checks.refusedArgument("field width 201", () -> ui.field(1, 201));
        Checks.refusedArgument("tree label -1", () -> ui.tree(-1, 10));
        Checks.refusedArgument("tree label 1000", () -> ui.tree(1000, 10));
        Checks.refusedArgument("tree width 0", () -> ui.tree(1, 0));
        Checks.refusedArgument("tree width 201", () -> ui.tree(1, 201));
        Checks.latest("no item was told", ui, 0, 0, 0, 0);
        Checks.same("the frame is on", ui.look(14), 1);
        Checks.no("button(0, 1)", ui.button(0, 1));
        Checks.latest("button", ui, 4, 16, 5, 28);
        Checks.no("button(999, 200)", ui.button(999, 200));
        Checks.latest("button", ui, 4, 32, 204, 44);
        Checks.same("check(0)", ui.check(0), 0);
        Checks.latest("check", ui, 4, 48, 16, 60);
        Checks.same("check(999)", ui.check(999), 0);
        Checks.same("slider(0, 2, -1000, 1000)", ui.slider(0, 2, -1000, 1000), 0);
        Checks.latest("slider", ui, 4, 80, 6, 92);
        Checks.same("slider(999, 200, -1, 0)", ui.slider(999, 200, -1, 0), 0);
        Checks.same("field(0, 1)", ui.field(0, 1), 0);
        Checks.latest("field", ui, 4, 112, 5, 124);
        Checks.same("field(999, 200)", ui.field(999, 200), 0);
        Checks.no("tree(0, 1)", ui.tree(0, 1));
        Checks.latest("tree", ui, 4, 144, 5, 156);
        Checks.no("tree(999, 200)", ui.tree(999, 200));
        ui.close();
        ui.end();
    }

    /** Buttons 1 (4, 16 .. 44, 28), 2 (.., 32 .. 44) and 3 (.., 48 .. 60) in window 0; which are clicked, as bits. */
    private static int frame(PanelFrames ui) {
        ui.begin();
        ui.window(0, 0, 0, 200, 200);
        int clicked = 0;
        for (int label = 1; label <= 3; label++) {
            clicked |= ui.button(label, 40) ? 1 << label : 0;
        }
        ui.close();
        ui.end();
        return clicked;
    }

    private static int hoveredAt(PanelFrames ui, int x, int y) {
        ui.point(x, y);
        frame(ui);
        return ui.look(1);
    }

    private static void hovering() {
        PanelFrames ui = new PanelFrames();
        Checks.same("before the window was told", hoveredAt(ui, 10, 20), 0);
        Checks.same("left top", hoveredAt(ui, 4, 16), Checks.idIn(0, 1));
        Checks.same("left of it", hoveredAt(ui, 3, 16), 0);
        Checks.same("above it", hoveredAt(ui, 4, 15), 0);
        Checks.same("right bottom", hoveredAt(ui, 43, 27), Checks.idIn(0, 1));
        Checks.same("right of it", hoveredAt(ui, 44, 27), 0);
        Checks.same("below it", hoveredAt(ui, 43, 28), 0);
        Checks.same("the next", hoveredAt(ui, 43, 32), Checks.idIn(0, 2));
        ui.begin();
        Checks.same("no item when a frame begins", ui.look(1), 0);
        ui.window(0, 0, 0, 200, 200);
        ui.button(1, 40);
        Checks.same("nor by another one", ui.look(1), 0);
        ui.button(2, 40);
        Checks.same("from then on", ui.look(1), Checks.idIn(0, 2));
        ui.button(3, 40);
        Checks.same("it stays so", ui.look(1), Checks.idIn(0, 2));
        ui.close();
        ui.end();
    }

    private static void hoveringNeedsTheWindow() {
        PanelFrames ui = new PanelFrames();
        ui.point(10, 20);
        for (int k = 0; k < 2; k++) {
            ui.begin();
            ui.window(0, 0, 0, 100, 100);
            ui.button(1, 40);
            ui.close();
            ui.window(1, 5, 5, 100, 100);
            ui.close();
            ui.end();
        }
        Checks.same("window 1 is before it", ui.look(4), 1);
        Checks.same("so the button isn't hovered", ui.look(1), 0);
        ui.press(true);
        frame(ui);
        Checks.same("nor active", ui.look(0), 0);
    }

    private static void clicking() {
        PanelFrames ui = new PanelFrames();
        ui.point(10, 35);
        frame(ui);
        ui.press(true);
        Checks.same("pressed is not clicked", frame(ui), 0);
        Checks.same("it is active", ui.look(0), Checks.idIn(0, 2));
        Checks.same("it has the focus", ui.look(2), Checks.idIn(0, 2));
        Checks.same("nor later", frame(ui), 0);
        ui.press(false);
        Checks.same("released is clicked", frame(ui), 1 << 2);
        Checks.same("it is active no more", ui.look(0), 0);
        Checks.same("the focus stays", ui.look(2), Checks.idIn(0, 2));
        Checks.same("once", frame(ui), 0);
    }

    private static void releasedBeside() {
        PanelFrames ui = new PanelFrames();
        ui.point(10, 35);
        frame(ui);
        ui.press(true);
        frame(ui);
        ui.point(100, 35);
        frame(ui);
        Checks.same("beside it isn't hovered", ui.look(1), 0);
        Checks.same("it is active", ui.look(0), Checks.idIn(0, 2));
        ui.press(false);
        Checks.same("released beside: not clicked", frame(ui), 0);
        Checks.same("not active", ui.look(0), 0);
        ui.point(10, 35);
        frame(ui);
        ui.press(true);
        frame(ui);
        ui.point(100, 35);
        frame(ui);
        ui.point(20, 36);
        frame(ui);
        Checks.same("back it is hovered", ui.look(1), Checks.idIn(0, 2));
        ui.press(false);
        Checks.same("released there: clicked", frame(ui), 1 << 2);
    }

    private static void nothingElseWhileActive() {
        PanelFrames ui = new PanelFrames();
        ui.point(10, 20);
        frame(ui);
        ui.press(true);
        frame(ui);
        ui.point(10, 35);
        frame(ui);
        Checks.same("another one isn't hovered", ui.look(1), 0);
        ui.press(false);
        Checks.same("nor clicked", frame(ui), 0);
        Checks.same("1 was let go before 2 was told", ui.look(1), Checks.idIn(0, 2));
        frame(ui);
        Checks.same("now it is hovered", ui.look(1), Checks.idIn(0, 2));
    }

    private static void pressedBeside() {
        PanelFrames ui = new PanelFrames();
        ui.point(100, 100);
        frame(ui);
        ui.press(true);
        frame(ui);
        Checks.same("nothing is active", ui.look(0), 0);
        ui.point(10, 20);
        frame(ui);
        Checks.same("pressed earlier: hovered", ui.look(1), Checks.idIn(0, 1));
        Checks.same("but not active", ui.look(0), 0);
        ui.press(false);
        Checks.same("nor clicked", frame(ui), 0);
    }

    private static void colours() {
        PanelFrames ui = new PanelFrames();
        ui.point(10, 20);
        frame(ui);
        Checks.same("not hovered", ui.vertex(8, 2), 3);
        frame(ui);
        Checks.same("hovered", ui.vertex(8, 2), 4);
        Checks.same("the other isn't", ui.vertex(16, 2), 3);
        ui.press(true);
        frame(ui);
        Checks.same("active", ui.vertex(8, 2), 5);
        ui.point(100, 100);
        frame(ui);
        Checks.same("active beside", ui.vertex(8, 2), 5);
        ui.press(false);
        frame(ui);
        Checks.same("no more", ui.vertex(8, 2), 3);
    }

    private static int checkFrame(PanelFrames ui) {
        ui.begin();
        ui.window(0, 0, 0, 200, 200);
        int answer = ui.check(1);
        ui.close();
        ui.end();
        return answer;
    }

    private static int checkTurn(PanelFrames ui, boolean down) {
        ui.press(down);
        return checkFrame(ui);
    }

    private static void checks() {
        PanelFrames ui = new PanelFrames();
        int id = Checks.idIn(0, 1);
        ui.point(15, 27);
        Checks.same("at first", checkFrame(ui), 0);
        Checks.same("pressed", checkTurn(ui, true), 0);
        Checks.same("clicked", checkTurn(ui, false), 1);
        Checks.same("kept", ui.kept(id), 1);
        Checks.same("it stays", checkFrame(ui), 1);
        Checks.same("pressed again", checkTurn(ui, true), 1);
        Checks.same("clicked again", checkTurn(ui, false), 0);
        Checks.same("kept again", ui.kept(id), 0);
        ui.point(16, 27);
        checkTurn(ui, true);
        Checks.same("12 wide", checkTurn(ui, false), 0);
        ui.point(15, 28);
        checkTurn(ui, true);
        Checks.same("12 high", checkTurn(ui, false), 0);
    }

    private static void checkOfAnotherNumber() {
        PanelFrames ui = new PanelFrames();
        ui.point(10, 20);
        ui.begin();
        ui.window(0, 0, 0, 200, 200);
        ui.slider(1, 10, 7, 9);
        ui.close();
        ui.end();
        Checks.same("the number of its ID", checkFrame(ui), 7);
        checkTurn(ui, true);
        Checks.same("clicked it becomes 0", checkTurn(ui, false), 0);
    }

    private static int sliderFrame(PanelFrames ui, int width, int low, int high) {
        ui.begin();
        ui.window(0, 0, 0, 300, 200);
        int answer = ui.slider(1, width, low, high);
        ui.close();
        ui.end();
        return answer;
    }

    private static int slideTo(PanelFrames ui, int x, int width, int low, int high) {
        ui.point(x, 20);
        return sliderFrame(ui, width, low, high);
    }

    private static void sliderByMouse() {
        PanelFrames ui = new PanelFrames();
        int id = Checks.idIn(0, 1);
        ui.point(54, 20);
        Checks.same("at first", sliderFrame(ui, 101, 0, 100), 0);
        ui.press(true);
        Checks.same("pressed in the middle", sliderFrame(ui, 101, 0, 100), 50);
        Checks.same("kept", ui.kept(id), 50);
        Checks.same("drawn", slideTo(ui, 64, 101, 0, 100), 60);
        Checks.same("at the right end", slideTo(ui, 104, 101, 0, 100), 100);
        Checks.same("beyond the right end", slideTo(ui, 999, 101, 0, 100), 100);
        Checks.same("at the left end", slideTo(ui, 4, 101, 0, 100), 0);
        Checks.same("beyond the left end", slideTo(ui, 0, 101, 0, 100), 0);
        Checks.same("below 0 at the left end", slideTo(ui, 4, 101, -50, 50), -50);
        Checks.same("below 0", slideTo(ui, 34, 101, -50, 50), -20);
        Checks.same("the widest range", slideTo(ui, 203, 200, -1000, 1000), 1000);
        Checks.same("the smallest", slideTo(ui, 5, 2, 6, 7), 7);
        Checks.same("the smallest, left", slideTo(ui, 4, 2, 6, 7), 6);
        slideTo(ui, 34, 101, 0, 100);
        ui.press(false);
        Checks.same("released", sliderFrame(ui, 101, 0, 100), 30);
        Checks.same("it stays", slideTo(ui, 64, 101, 0, 100), 30);
    }

    private static void sliderCutsTheFraction() {
        PanelFrames ui = new PanelFrames();
        ui.point(4, 20);
        sliderFrame(ui, 4, 0, 10);
        ui.press(true);
        Checks.same("0 of 3", sliderFrame(ui, 4, 0, 10), 0);
        Checks.same("1 of 3", slideTo(ui, 5, 4, 0, 10), 3);
        Checks.same("2 of 3", slideTo(ui, 6, 4, 0, 10), 6);
        Checks.same("3 of 3", slideTo(ui, 7, 4, 0, 10), 10);
        Checks.same("from 100 on", slideTo(ui, 6, 4, 100, 110), 106);
    }

    private static void sliderOnRelease() {
        PanelFrames ui = new PanelFrames();
        ui.point(54, 20);
        sliderFrame(ui, 101, 0, 100);
        ui.press(true);
        sliderFrame(ui, 101, 0, 100);
        ui.point(84, 20);
        ui.press(false);
        Checks.same("moved and released in one frame", sliderFrame(ui, 101, 0, 100), 50);
    }

    private static void sliderIsBroughtBetween() {
        PanelFrames ui = new PanelFrames();
        int id = Checks.idIn(0, 1);
        Checks.same("to low", sliderFrame(ui, 50, 5, 20), 5);
        Checks.same("kept", ui.kept(id), 5);
        Checks.same("between", sliderFrame(ui, 50, -20, 20), 5);
        Checks.same("to high", sliderFrame(ui, 50, -20, -10), -10);
        Checks.same("kept below 0", ui.kept(id), -10);
    }

    private static int sliderKey(PanelFrames ui, int key, int low, int high) {
        ui.key(key, true);
        int answer = sliderFrame(ui, 50, low, high);
        ui.key(key, false);
        return answer;
    }

    private static void sliderByKeys() {
        PanelFrames ui = new PanelFrames();
        Checks.same("without the focus", sliderKey(ui, Checks.RIGHT, 0, 2), 0);
        sliderKey(ui, Checks.TAB, 0, 2);
        Checks.same("RIGHT", sliderKey(ui, Checks.RIGHT, 0, 2), 1);
        Checks.same("RIGHT again", sliderKey(ui, Checks.RIGHT, 0, 2), 2);
        Checks.same("RIGHT at high", sliderKey(ui, Checks.RIGHT, 0, 2), 2);
        Checks.same("LEFT", sliderKey(ui, Checks.LEFT, 0, 2), 1);
        Checks.same("kept", ui.kept(Checks.idIn(0, 1)), 1);
        Checks.same("LEFT to 0", sliderKey(ui, Checks.LEFT, 0, 2), 0);
        Checks.same("LEFT at low", sliderKey(ui, Checks.LEFT, 0, 2), 0);
        Checks.same("LEFT below 0", sliderKey(ui, Checks.LEFT, -2, 2), -1);
        ui.key(Checks.LEFT, true);
        Checks.same("both", sliderKey(ui, Checks.RIGHT, -2, 2), -1);
        ui.key(Checks.LEFT, false);
        Checks.same("HOME is nothing to it", sliderKey(ui, Checks.HOME, -2, 2), -1);
    }

    private static boolean treeFrame(PanelFrames ui) {
        ui.begin();
        ui.window(0, 0, 0, 200, 200);
        boolean open = ui.tree(1, 40);
        Checks.same("things open", ui.look(13), open ? 2 : 1);
        if (open) {
            ui.check(5);
            Checks.same("a tree is closed", ui.close(), 2);
        }
        ui.close();
        ui.end();
        return open;
    }

    private static boolean treeTurn(PanelFrames ui, boolean down) {
        ui.press(down);
        return treeFrame(ui);
    }

    private static void trees() {
        PanelFrames ui = new PanelFrames();
        int id = Checks.idIn(0, 1);
        ui.point(10, 20);
        Checks.no("at first", treeFrame(ui));
        Checks.no("pressed", treeTurn(ui, true));
        Checks.yes("clicked: open at once", treeTurn(ui, false));
        Checks.same("kept", ui.kept(id), 1);
        Checks.yes("it stays open", treeFrame(ui));
        Checks.yes("pressed again", treeTurn(ui, true));
        Checks.no("clicked again", treeTurn(ui, false));
        Checks.same("kept 0", ui.kept(id), 0);
    }

    private static void tab(PanelFrames ui) {
        ui.key(Checks.TAB, true);
        frame(ui);
        ui.key(Checks.TAB, false);
    }

    private static void tabGoesRound() {
        PanelFrames ui = new PanelFrames();
        ui.key(Checks.TAB, true);
        ui.begin();
        ui.window(0, 0, 0, 200, 200);
        ui.button(1, 40);
        ui.button(2, 40);
        Checks.same("nobody had it: not before the end", ui.look(2), 0);
        ui.close();
        ui.end();
        Checks.same("the first one", ui.look(2), Checks.idIn(0, 1));
        frame(ui);
        Checks.same("TAB is down, but not here", ui.look(2), Checks.idIn(0, 1));
        ui.key(Checks.TAB, false);
        frame(ui);
        Checks.same("TAB goes up", ui.look(2), Checks.idIn(0, 1));
        ui.key(Checks.TAB, true);
        ui.begin();
        ui.window(0, 0, 0, 200, 200);
        ui.button(1, 40);
        Checks.same("1 has it yet", ui.look(2), Checks.idIn(0, 1));
        ui.button(2, 40);
        Checks.same("2 gets it", ui.look(2), Checks.idIn(0, 2));
        ui.button(3, 40);
        Checks.same("2 keeps it", ui.look(2), Checks.idIn(0, 2));
        ui.close();
        ui.end();
        Checks.same("2 has it", ui.look(2), Checks.idIn(0, 2));
        ui.key(Checks.TAB, false);
        tab(ui);
        Checks.same("3 has it", ui.look(2), Checks.idIn(0, 3));
        tab(ui);
        Checks.same("and the first again", ui.look(2), Checks.idIn(0, 1));
    }

    private static void tabWithoutItems() {
        PanelFrames ui = new PanelFrames();
        tab(ui);
        ui.key(Checks.TAB, true);
        ui.begin();
        ui.window(0, 0, 0, 200, 200);
        ui.child(1, 40, 40);
        ui.close();
        ui.close();
        ui.end();
        Checks.same("a child gets no focus", ui.look(2), 0);
        ui.key(Checks.TAB, false);
        ui.key(Checks.TAB, true);
        ui.begin();
        ui.end();
        Checks.same("there is none", ui.look(2), 0);
    }

    private static void tabWithOneId() {
        PanelFrames ui = new PanelFrames();
        tab(ui);
        ui.key(Checks.TAB, true);
        ui.begin();
        ui.window(0, 0, 0, 200, 200);
        ui.button(1, 40);
        ui.button(1, 40);
        Checks.same("the same ID is no other", ui.look(2), Checks.idIn(0, 1));
        ui.check(2);
        Checks.same("a check gets it", ui.look(2), Checks.idIn(0, 2));
        ui.close();
        ui.end();
        ui.key(Checks.TAB, false);
        ui.key(Checks.TAB, true);
        ui.begin();
        ui.window(0, 0, 0, 200, 200);
        ui.button(2, 40);
        ui.close();
        ui.window(1, 300, 0, 200, 200);
        ui.slider(1, 40, 0, 1);
        Checks.same("in another window, too", ui.look(2), Checks.idIn(1, 1));
        ui.close();
        ui.end();
    }

    private static void enterHoldsAndClicks() {
        PanelFrames ui = new PanelFrames();
        ui.key(Checks.ENTER, true);
        Checks.same("without the focus", frame(ui), 0);
        Checks.same("nothing is held", ui.look(3), 0);
        ui.key(Checks.ENTER, false);
        Checks.same("nor clicked", frame(ui), 0);
        tab(ui);
        tab(ui);
        ui.key(Checks.ENTER, true);
        Checks.same("down is not clicked", frame(ui), 0);
        Checks.same("it is held", ui.look(3), Checks.idIn(0, 2));
        Checks.same("held on", frame(ui), 0);
        Checks.same("it is held yet", ui.look(3), Checks.idIn(0, 2));
        ui.key(Checks.ENTER, false);
        Checks.same("up is clicked", frame(ui), 1 << 2);
        Checks.same("held no more", ui.look(3), 0);
        Checks.same("once", frame(ui), 0);
    }

    private static void enterInOneFrame() {
        PanelFrames ui = new PanelFrames();
        tab(ui);
        ui.key(Checks.ENTER, true);
        ui.key(Checks.ENTER, false);
        Checks.same("down and up in one frame", frame(ui), 1 << 1);
        Checks.same("held no more", ui.look(3), 0);
    }

    private static void heldGoesWithTheFocus() {
        PanelFrames ui = new PanelFrames();
        tab(ui);
        ui.key(Checks.ENTER, true);
        frame(ui);
        Checks.same("held", ui.look(3), Checks.idIn(0, 1));
        tab(ui);
        Checks.same("the focus went on", ui.look(2), Checks.idIn(0, 2));
        Checks.same("nothing is held", ui.look(3), 0);
        ui.key(Checks.ENTER, false);
        Checks.same("nobody is clicked", frame(ui), 0);
        ui.key(Checks.ENTER, true);
        frame(ui);
        ui.point(10, 52);
        ui.press(true);
        frame(ui);
        Checks.same("the focus went by a press", ui.look(2), Checks.idIn(0, 3));
        Checks.same("nothing is held then", ui.look(3), 0);
    }

    private static void focusByPress() {
        PanelFrames ui = new PanelFrames();
        tab(ui);
        ui.point(10, 52);
        frame(ui);
        Checks.same("hovering gives no focus", ui.look(2), Checks.idIn(0, 1));
        ui.press(true);
        frame(ui);
        Checks.same("a press does", ui.look(2), Checks.idIn(0, 3));
        ui.press(false);
        frame(ui);
        ui.point(100, 100);
        ui.press(true);
        frame(ui);
        Checks.same("a press beside takes none", ui.look(2), Checks.idIn(0, 3));
    }

    private static void fieldNeedsTheFocus() {
        PanelFrames ui = new PanelFrames();
        ui.point(10, 20);
        ui.letter('a');
        for (int k = 0; k < 3; k++) {
            ui.begin();
            ui.window(0, 0, 0, 200, 200);
            Checks.same("field, frame " + k, ui.field(1, 40), k == 2 ? 1 : 0);
            ui.close();
            ui.end();
            if (k == 1) {
                ui.press(true);
                ui.letter('b');
            }
        }
        Checks.same("pressed it got the letter at once", ui.text(Checks.idIn(0, 1), 0), 'b');
    }

    private static void sliderPressedBeside() {
        PanelFrames ui = new PanelFrames();
        ui.point(54, 100);
        sliderFrame(ui, 101, 0, 100);
        ui.press(true);
        Checks.same("pressed beside it", sliderFrame(ui, 101, 0, 100), 0);
        Checks.same("and drawn over it", slideTo(ui, 54, 101, 0, 100), 0);
    }
}
