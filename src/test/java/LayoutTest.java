/** Promises 18 to 22: where items lie, and what trees, children, scopes, groups and near do. */
public final class LayoutTest {
    public static void main(String[] args) {
        linesAndNear();
        nearWithoutAnItem();
        nearStates();
        groups();
        emptyGroup();
        nearAGroupCountsOnce();
        groupsInGroups();
        groupStates();
        indent();
        indentInGroupsAndChildren();
        brokenFrameLeavesNoIndent();
        treeWithoutRoom();
        childArguments();
        childPlaces();
        childClips();
        childScrolls();
        childByNumber();
        childInChild();
        wheelOfTheLastChild();
        wheelOfTheEighthChild();
        childOfAnEarlierFrame();
        childStates();
        scopes();
        scopeStates();
        idThatWouldBeNothing();
        Checks.finish("LayoutTest");
    }

    private static void linesAndNear() {
        PanelFrames ui = new PanelFrames();
        ui.begin();
        ui.window(0, 10, 20, 200, 200);
        ui.button(1, 40);
        Checks.latest("the first", ui, 14, 36, 54, 48);
        ui.button(2, 30);
        Checks.latest("the next line", ui, 14, 52, 44, 64);
        ui.near();
        ui.check(3);
        Checks.latest("near", ui, 48, 52, 60, 64);
        ui.near();
        ui.child(4, 20, 50);
        Checks.latest("near again", ui, 64, 52, 84, 102);
        ui.close();
        ui.near();
        ui.slider(5, 10, 0, 1);
        Checks.latest("near a child, at the line's top", ui, 88, 52, 98, 64);
        ui.field(6, 10);
        Checks.latest("the line ends with its lowest item", ui, 14, 106, 24, 118);
        ui.near();
        ui.near();
        ui.tree(7, 10);
        Checks.latest("near twice is near", ui, 28, 106, 38, 118);
        ui.button(8, 10);
        Checks.latest("near counts once", ui, 14, 122, 24, 134);
        ui.close();
        Checks.same("HIGH", ui.place(0, 5), 98);
        ui.end();
    }

    private static void nearWithoutAnItem() {
        PanelFrames ui = new PanelFrames();
        ui.begin();
        ui.window(0, 0, 0, 200, 200);
        ui.near();
        ui.button(1, 40);
        Checks.latest("none before in the window", ui, 4, 16, 44, 28);
        ui.child(2, 60, 60);
        ui.near();
        ui.button(1, 40);
        Checks.latest("none before in the child", ui, 6, 34, 46, 46);
        ui.close();
        ui.group();
        ui.near();
        ui.button(1, 40);
        Checks.latest("none before in the group", ui, 4, 96, 44, 108);
        ui.close();
        ui.close();
        ui.end();
    }

    private static void nearStates() {
        PanelFrames ui = new PanelFrames();
        Checks.refusedState("near in no frame", ui::near);
        ui.begin();
        Checks.refusedState("near in no window", ui::near);
        Checks.same("that broke the frame", ui.look(14), 0);
    }

    private static void groups() {
        PanelFrames ui = new PanelFrames();
        ui.begin();
        ui.window(0, 0, 0, 200, 200);
        ui.button(1, 10);
        ui.near();
        ui.group();
        Checks.latest("a group is an item when it is closed", ui, 4, 16, 14, 28);
        ui.button(2, 20);
        Checks.latest("from its own cursor on", ui, 18, 16, 38, 28);
        ui.near();
        ui.button(3, 10);
        Checks.latest("near in it", ui, 42, 16, 52, 28);
        ui.button(4, 5);
        Checks.latest("its next line", ui, 18, 32, 23, 44);
        Checks.same("close", ui.close(), 4);
        Checks.latest("the group", ui, 18, 16, 52, 44);
        ui.near();
        ui.button(5, 6);
        Checks.latest("near the group", ui, 56, 16, 62, 28);
        ui.button(6, 6);
        Checks.latest("below the group", ui, 4, 48, 10, 60);
        ui.close();
        Checks.same("HIGH", ui.place(0, 5), 44);
        ui.end();
        Checks.same("a group isn't drawn: 2, and 6 buttons with digits", ui.drawn(2), 4 * 14);
    }

    private static void emptyGroup() {
        PanelFrames ui = new PanelFrames();
        ui.begin();
        ui.window(0, 0, 0, 200, 200);
        ui.group();
        ui.close();
        Checks.latest("0 and 0", ui, 4, 16, 4, 16);
        ui.near();
        ui.button(1, 10);
        Checks.latest("near it", ui, 8, 16, 18, 28);
        ui.group();
        ui.close();
        Checks.latest("in a line of its own", ui, 4, 32, 4, 32);
        ui.button(2, 10);
        Checks.latest("below it", ui, 4, 36, 14, 48);
        ui.close();
        ui.end();
    }

    private static void groupsInGroups() {
        PanelFrames ui = new PanelFrames();
        ui.begin();
        ui.window(0, 0, 0, 300, 300);
        ui.group();
        ui.button(1, 10);
        ui.near();
        ui.group();
        ui.button(2, 30);
        ui.button(3, 20);
        ui.close();
        Checks.latest("the inner one", ui, 18, 16, 48, 44);
        ui.button(4, 10);
        Checks.latest("below it in the outer one", ui, 4, 48, 14, 60);
        ui.near();
        ui.child(5, 100, 20);
        ui.button(6, 200);
        ui.close();
        ui.close();
        Checks.latest("a child in it counts, not what is in that", ui, 4, 16, 118, 68);
        ui.close();
        ui.end();
    }

    private static void groupStates() {
        PanelFrames ui = new PanelFrames();
        Checks.refusedState("group in no frame", ui::group);
        ui.begin();
        Checks.refusedState("group in no window", ui::group);
        ui.begin();
        ui.window(0, 0, 0, 200, 200);
        for (int k = 0; k < 39; k++) {
            ui.group();
        }
        Checks.same("40 are open", ui.look(13), 40);
        Checks.refusedState("a group more", ui::group);
        Checks.same("that broke the frame", ui.look(14), 0);
    }

    /** Makes the trees 1 and, in it, 2 open: TAB and ENTER. */
    private static PanelFrames withOpenTrees() {
        PanelFrames ui = new PanelFrames();
        treesFrame(ui, Checks.TAB);
        treesFrame(ui, Checks.ENTER);
        treesFrame(ui, Checks.TAB);
        treesFrame(ui, Checks.ENTER);
        Checks.same("tree 1 is open", ui.kept(Checks.idIn(0, 1)), 1);
        Checks.same("tree 2 is open", ui.kept(Checks.idIn(0, 1, 2)), 1);
        return ui;
    }

    private static void treesFrame(PanelFrames ui, int key) {
        ui.key(key, true);
        ui.key(key, false);
        ui.begin();
        ui.window(0, 0, 0, 200, 200);
        if (ui.tree(1, 40)) {
            if (ui.tree(2, 40)) {
                ui.close();
            }
            ui.close();
        }
        ui.close();
        ui.end();
    }

    private static void indent() {
        PanelFrames ui = withOpenTrees();
        ui.begin();
        ui.window(0, 0, 0, 200, 200);
        ui.button(9, 10);
        Checks.latest("before", ui, 4, 16, 14, 28);
        Checks.yes("tree 1", ui.tree(1, 40));
        Checks.latest("the tree itself", ui, 4, 32, 44, 44);
        Checks.yes("tree 2", ui.tree(2, 40));
        Checks.latest("10 more", ui, 14, 48, 54, 60);
        ui.near();
        ui.button(3, 10);
        Checks.latest("near is near", ui, 58, 48, 68, 60);
        ui.button(4, 10);
        Checks.latest("20 more", ui, 24, 64, 34, 76);
        Checks.same("close 2", ui.close(), 2);
        ui.button(5, 10);
        Checks.latest("10 more again", ui, 14, 80, 24, 92);
        Checks.same("close 1", ui.close(), 2);
        ui.button(6, 10);
        Checks.latest("none more", ui, 4, 96, 14, 108);
        ui.close();
        ui.end();
    }

    private static void indentInGroupsAndChildren() {
        PanelFrames ui = withOpenTrees();
        ui.begin();
        ui.window(0, 0, 0, 200, 200);
        ui.tree(1, 40);
        ui.group();
        ui.button(3, 10);
        Checks.latest("a group lies 10 more", ui, 14, 32, 24, 44);
        ui.button(4, 10);
        Checks.latest("in it none more", ui, 14, 48, 24, 60);
        ui.close();
        ui.child(5, 40, 40);
        Checks.latest("a child lies 10 more", ui, 14, 64, 54, 104);
        ui.button(3, 10);
        ui.button(4, 10);
        Checks.latest("in it none more", ui, 16, 82, 26, 94);
        ui.close();
        ui.button(6, 10);
        Checks.latest("behind them 10 more", ui, 14, 108, 24, 120);
        ui.close();
        ui.close();
        ui.end();
    }

    private static void treeWithoutRoom() {
        PanelFrames ui = new PanelFrames();
        int[] path = new int[40];
        path[39] = 7;
        int id = Checks.idIn(0, path);
        deepTree(ui, Checks.TAB);
        Checks.no("not open it needs no room", ui.tree(7, 40));
        for (int k = 0; k < 40; k++) {
            ui.close();
        }
        ui.end();
        Checks.same("it has the focus", ui.look(2), id);
        deepTree(ui, Checks.ENTER);
        Checks.refusedState("it would be open", () -> ui.tree(7, 40));
        Checks.same("that broke the frame", ui.look(14), 0);
        Checks.same("it has been clicked", ui.kept(id), 1);
        deepTree(ui, Checks.HOME);
        Checks.refusedState("it is open", () -> ui.tree(7, 40));
        Checks.same("it wasn't clicked", ui.kept(id), 1);
    }

    private static void deepTree(PanelFrames ui, int key) {
        ui.key(key, true);
        ui.key(key, false);
        ui.begin();
        ui.window(0, 0, 0, 200, 200);
        for (int k = 0; k < 39; k++) {
            ui.scope(0);
        }
    }

    private static void childArguments() {
        PanelFrames ui = new PanelFrames();
        ui.begin();
        ui.window(0, 0, 0, 300, 300);
        Checks.refusedArgument("label -1", () -> ui.child(-1, 10, 10));
        Checks.refusedArgument("label 1000", () -> ui.child(1000, 10, 10));
        Checks.refusedArgument("width 0", () -> ui.child(1, 0, 10));
        Checks.refusedArgument("width 201", () -> ui.child(1, 201, 10));
        Checks.refusedArgument("height 0", () -> ui.child(1, 10, 0));
        Checks.refusedArgument("height 201", () -> ui.child(1, 10, 201));
        Checks.same("the frame is on", ui.look(14), 1);
        Checks.same("nothing more is open", ui.look(13), 1);
        ui.child(0, 1, 1);
        Checks.same("it is open", ui.look(13), 2);
        Checks.same("close", ui.close(), 1);
        ui.child(999, 200, 200);
        Checks.latest("the biggest", ui, 4, 21, 204, 221);
        ui.close();
        ui.close();
        ui.end();
    }

    private static void childPlaces() {
        PanelFrames ui = new PanelFrames();
        ui.begin();
        ui.window(0, 0, 0, 200, 200);
        ui.button(1, 10);
        ui.child(2, 60, 40);
        Checks.latest("the child", ui, 4, 32, 64, 72);
        ui.button(1, 10);
        Checks.latest("2 right and below", ui, 6, 34, 16, 46);
        ui.near();
        ui.button(2, 10);
        Checks.latest("near in it", ui, 20, 34, 30, 46);
        for (int k = 0; k < 4; k++) {
            ui.button(k, 10);
        }
        Checks.latest("beyond its lower side", ui, 6, 98, 16, 110);
        ui.close();
        ui.button(3, 10);
        Checks.latest("behind it", ui, 4, 76, 14, 88);
        ui.close();
        Checks.same("HIGH of the window", ui.place(0, 5), 72);
        ui.end();
    }

    /** Window 0 with child 2 (4, 16 .. 64, 56) of five lines of buttons, 100 wide. */
    private static void childFrame(PanelFrames ui) {
        ui.begin();
        ui.window(0, 0, 0, 200, 62);
        ui.child(2, 60, 40);
        for (int k = 0; k < 5; k++) {
            ui.button(k, 100);
        }
        ui.close();
        ui.button(9, 20);
        ui.close();
        ui.end();
    }

    private static int hoveredAt(PanelFrames ui, int x, int y) {
        ui.point(x, y);
        childFrame(ui);
        return ui.look(1);
    }

    private static void childClips() {
        PanelFrames ui = new PanelFrames();
        childFrame(ui);
        Checks.same("in the child", hoveredAt(ui, 63, 20), Checks.idIn(0, 2, 0));
        Checks.same("beyond its right side", hoveredAt(ui, 64, 20), 0);
        Checks.same("its last visible row", hoveredAt(ui, 10, 55), Checks.idIn(0, 2, 2));
        Checks.same("beyond its lower side", hoveredAt(ui, 10, 56), 0);
        Checks.same("the window's own", hoveredAt(ui, 10, 61), Checks.idIn(0, 9));
    }

    private static int firstTop(PanelFrames ui) {
        ui.begin();
        ui.window(0, 0, 0, 200, 62);
        ui.child(2, 60, 40);
        ui.button(0, 100);
        int top = ui.look(6);
        for (int k = 1; k < 5; k++) {
            ui.button(k, 100);
        }
        ui.close();
        ui.button(9, 20);
        ui.close();
        ui.end();
        return top;
    }

    private static void childScrolls() {
        PanelFrames ui = new PanelFrames();
        ui.point(10, 30);
        Checks.same("at first", firstTop(ui), 18);
        ui.wheel(1);
        Checks.same("10 for a line", firstTop(ui), 8);
        Checks.same("the window doesn't scroll", ui.place(0, 4), 0);
        Checks.same("it stays", firstTop(ui), 8);
        ui.wheel(9);
        Checks.same("at most HIGH less VIEW: 76 less 40", firstTop(ui), -18);
        ui.wheel(-1);
        Checks.same("back", firstTop(ui), -8);
        ui.wheel(-9);
        Checks.same("at least 0", firstTop(ui), 18);
        ui.point(100, 30);
        ui.wheel(1);
        Checks.same("beside the child the window scrolls", firstTop(ui), 12);
        Checks.same("HIGH 56 less VIEW 50", ui.place(0, 4), 6);
        ui.point(500, 500);
        ui.wheel(1);
        Checks.same("outside nothing scrolls", firstTop(ui), 12);
    }

    private static int[] twoTops(PanelFrames ui, int children) {
        int[] tops = new int[2];
        ui.begin();
        ui.window(0, 0, 0, 200, 200);
        for (int k = 0; k < children; k++) {
            ui.child(k, 60, 40);
            ui.button(0, 100);
            tops[k] = ui.look(6);
            for (int line = 1; line < 5; line++) {
                ui.button(line, 100);
            }
            ui.close();
        }
        ui.close();
        ui.end();
        return tops;
    }

    private static void childByNumber() {
        PanelFrames ui = new PanelFrames();
        ui.point(10, 70);
        int[] tops = twoTops(ui, 2);
        Checks.same("the first", tops[0], 18);
        Checks.same("the second", tops[1], 62);
        ui.wheel(2);
        tops = twoTops(ui, 2);
        Checks.same("the first doesn't scroll", tops[0], 18);
        Checks.same("the second scrolls", tops[1], 42);
        ui.point(10, 30);
        ui.wheel(1);
        tops = twoTops(ui, 1);
        Checks.same("the first scrolls", tops[0], 8);
        tops = twoTops(ui, 2);
        Checks.same("the first stays", tops[0], 8);
        Checks.same("the second has its scroll yet", tops[1], 42);
    }

    private static int[] nestedTops(PanelFrames ui) {
        int[] tops = new int[2];
        ui.begin();
        ui.window(0, 0, 0, 200, 200);
        ui.child(1, 100, 100);
        ui.button(0, 20);
        tops[0] = ui.look(6);
        ui.child(2, 50, 200);
        for (int line = 0; line < 20; line++) {
            ui.button(line, 10);
            tops[1] = line == 0 ? ui.look(6) : tops[1];
        }
        ui.close();
        ui.close();
        ui.close();
        ui.end();
        return tops;
    }

    private static void childInChild() {
        PanelFrames ui = new PanelFrames();
        ui.point(20, 80);
        int[] tops = nestedTops(ui);
        Checks.same("the outer", tops[0], 18);
        Checks.same("the inner", tops[1], 36);
        ui.wheel(1);
        tops = nestedTops(ui);
        Checks.same("the outer doesn't scroll", tops[0], 18);
        Checks.same("the inner scrolls", tops[1], 26);
        ui.point(90, 80);
        ui.wheel(1);
        tops = nestedTops(ui);
        Checks.same("the outer scrolls", tops[0], 8);
        Checks.same("and the inner with it", tops[1], 16);
        ui.point(20, 130);
        ui.wheel(1);
        tops = nestedTops(ui);
        Checks.same("the inner's clip ends with the outer's", tops[1], 16);
    }

    private static void wheelOfTheLastChild() {
        PanelFrames ui = new PanelFrames();
        ui.point(10, 30);
        firstTop(ui);
        ui.begin();
        ui.window(1, 0, 0, 200, 200);
        ui.close();
        ui.window(0, 0, 0, 200, 62);
        ui.child(2, 60, 40);
        ui.close();
        ui.close();
        ui.end();
        ui.wheel(1);
        ui.begin();
        Checks.same("another window is before it", ui.look(4), 1);
        ui.window(0, 0, 0, 200, 62);
        ui.child(2, 60, 40);
        ui.button(0, 100);
        Checks.same("its child doesn't scroll", ui.look(6), 18);
        ui.close();
        ui.close();
        ui.end();
    }

    private static void childStates() {
        PanelFrames ui = new PanelFrames();
        Checks.refusedState("child in no frame", () -> ui.child(1, 10, 10));
        ui.begin();
        Checks.refusedState("child in no window", () -> ui.child(1, 10, 10));
        ui.begin();
        for (int k = 0; k < 8; k++) {
            ui.window(k, 0, 0, 200, 200);
            ui.child(1, 10, 10);
            ui.close();
            if (k < 7) {
                ui.close();
            }
        }
        Checks.refusedState("a ninth child in a frame", () -> ui.child(1, 10, 10));
        ui.begin();
        ui.window(0, 0, 0, 200, 200);
        for (int k = 0; k < 39; k++) {
            ui.scope(1);
        }
        Checks.refusedState("a child beyond 40", () -> ui.child(1, 10, 10));
        ui.begin();
        ui.window(0, 0, 0, 200, 200);
        for (int k = 0; k < 8; k++) {
            ui.child(1, 10, 10);
        }
        Checks.same("eight in one another", ui.look(13), 9);
        for (int k = 0; k < 9; k++) {
            ui.close();
        }
        ui.end();
        ui.begin();
        ui.window(0, 0, 0, 200, 200);
        ui.child(1, 10, 10);
        Checks.same("in the next frame again", ui.look(13), 2);
    }

    private static int focusIn(PanelFrames ui, int... scopes) {
        ui.key(Checks.TAB, true);
        ui.key(Checks.TAB, false);
        ui.begin();
        ui.window(3, 0, 0, 200, 200);
        for (int scope : scopes) {
            ui.scope(scope);
        }
        ui.button(6, 10);
        Checks.latest("a scope is no item", ui, 4, 16, 14, 28);
        for (int k = 0; k < scopes.length; k++) {
            Checks.same("close a scope", ui.close(), 3);
        }
        ui.close();
        ui.end();
        return ui.look(2);
    }

    private static void scopes() {
        PanelFrames ui = new PanelFrames();
        Checks.same("without a scope", focusIn(ui), 31 * 1003 + 7);
        Checks.same("in a scope", focusIn(ui, 5), 31 * (31 * 1003 + 6) + 7);
        Checks.same("in three", focusIn(ui, 5, 0, 999), Checks.idIn(3, 5, 0, 999, 6));
        int[] many = {999, 998, 997, 996, 995, 994};
        Checks.same("beyond an int", focusIn(ui, many), Checks.idIn(3, 999, 998, 997, 996, 995, 994, 6));
        ui.key(Checks.TAB, true);
        ui.begin();
        ui.window(3, 0, 0, 200, 200);
        ui.group();
        ui.child(4, 50, 50);
        ui.button(6, 10);
        ui.close();
        ui.close();
        ui.close();
        ui.end();
        Checks.same("a child's ID is in the pile, a group has none", ui.look(2), Checks.idIn(3, 4, 6));
    }

    private static void scopeStates() {
        PanelFrames ui = new PanelFrames();
        Checks.refusedState("scope in no frame", () -> ui.scope(1));
        ui.begin();
        Checks.refusedState("scope in no window", () -> ui.scope(1));
        ui.begin();
        ui.window(0, 0, 0, 200, 200);
        Checks.refusedArgument("label -1", () -> ui.scope(-1));
        Checks.refusedArgument("label 1000", () -> ui.scope(1000));
        for (int k = 0; k < 39; k++) {
            ui.scope(k == 0 ? 0 : 999);
        }
        Checks.same("40 are open", ui.look(13), 40);
        Checks.refusedArgument("the label is asked for first", () -> ui.scope(1000));
        ui.button(1, 10);
        Checks.refusedState("a scope more", () -> ui.scope(1));
        Checks.same("that broke the frame", ui.look(14), 0);
    }

    /** The labels by which 31 times the ID and so on comes to nothing, seen as digits of a number to the base 31. */
    private static void idThatWouldBeNothing() {
        int length = 6;
        long power = 1;
        long least = 0;
        for (int k = 0; k < length; k++) {
            least += power;
            power *= 31;
        }
        long target = (1000 * power + least + (1L << 32)) / (1L << 32) * (1L << 32);
        long rest = target - 1000 * power - least;
        int[] labels = new int[length];
        for (int k = 0; k < length; k++) {
            power /= 31;
            labels[k] = (int) Math.min(999, rest / power);
            rest -= labels[k] * power;
        }
        Checks.same("the labels are found", rest, 0);
        Checks.same("the ID is 1 then", Checks.idIn(0, labels), 1);
        PanelFrames ui = new PanelFrames();
        ui.key(Checks.TAB, true);
        ui.begin();
        ui.window(0, 0, 0, 200, 200);
        for (int k = 0; k < length - 1; k++) {
            ui.scope(labels[k]);
        }
        ui.slider(labels[length - 1], 20, 5, 9);
        for (int k = 0; k < length; k++) {
            ui.close();
        }
        ui.end();
        Checks.same("the focus of 1", ui.look(2), 1);
        Checks.same("kept for 1", ui.kept(1), 5);
    }

    private static void nearAGroupCountsOnce() {
        PanelFrames ui = new PanelFrames();
        ui.begin();
        ui.window(0, 0, 0, 200, 200);
        ui.button(1, 10);
        ui.near();
        ui.group();
        ui.close();
        Checks.latest("the group is near", ui, 18, 16, 18, 16);
        ui.button(2, 10);
        Checks.latest("what is behind it isn't", ui, 4, 32, 14, 44);
        ui.close();
        ui.end();
    }

    private static void brokenFrameLeavesNoIndent() {
        PanelFrames ui = withOpenTrees();
        for (int k = 0; k < 50; k++) {
            ui.begin();
            ui.window(0, 0, 0, 200, 200);
            ui.tree(1, 40);
            ui.child(3, 50, 50);
            ui.group();
            Checks.refusedState("end with all that open", ui::end);
        }
        ui.begin();
        ui.window(0, 0, 0, 200, 200);
        ui.button(1, 10);
        Checks.latest("no indent in the window", ui, 4, 16, 14, 28);
        ui.child(3, 50, 50);
        ui.button(1, 10);
        Checks.latest("none in the child", ui, 6, 34, 16, 46);
        ui.group();
        ui.button(1, 10);
        ui.close();
        Checks.latest("none in the group", ui, 6, 50, 16, 62);
        ui.close();
        ui.button(2, 10);
        Checks.latest("each area is its own", ui, 4, 86, 14, 98);
        ui.close();
        ui.end();
    }

    /** Eight children side by side in window 5, each of two lines; where the first lines lie. */
    private static int[] eightTops(PanelFrames ui, int height) {
        int[] tops = new int[8];
        ui.begin();
        ui.window(5, 0, 0, 400, 100);
        for (int k = 0; k < 8; k++) {
            ui.near();
            ui.child(k, 20, height);
            ui.button(0, 10);
            tops[k] = ui.look(6);
            ui.button(1, 10);
            ui.close();
        }
        ui.close();
        ui.end();
        return tops;
    }

    private static void wheelOfTheEighthChild() {
        for (int scrolled = 0; scrolled < 8; scrolled++) {
            PanelFrames ui = new PanelFrames();
            ui.point(10 + 24 * scrolled, 20);
            eightTops(ui, 15);
            ui.wheel(1);
            int[] tops = eightTops(ui, 15);
            for (int k = 0; k < 8; k++) {
                Checks.same("child " + k + " of eight", tops[k], k == scrolled ? 8 : 18);
            }
            ui.wheel(9);
            Checks.same("its own HIGH: 28 less 15", eightTops(ui, 15)[scrolled], 5);
            ui.wheel(9);
            Checks.same("VIEW as HIGH: no scroll", eightTops(ui, 28)[scrolled], 18);
            ui.wheel(9);
            Checks.same("VIEW above HIGH: no scroll", eightTops(ui, 60)[scrolled], 18);
        }
    }

    private static void childOfAnEarlierFrame() {
        PanelFrames ui = new PanelFrames();
        ui.point(10, 30);
        for (int k = 0; k < 3; k++) {
            ui.begin();
            ui.window(0, 0, 0, 200, 62);
            if (k == 0) {
                ui.child(2, 60, 40);
                ui.close();
            }
            for (int line = 0; line < 5; line++) {
                ui.button(line, 100);
            }
            ui.close();
            ui.end();
            if (k == 1) {
                ui.wheel(1);
            }
        }
        Checks.same("no child was told in the frame before: the window scrolls", ui.place(0, 4), 10);
    }
}
