/** The boundary cases of what is open, of IDs and of where items lie: promises 13 and 18 to 22. */
public final class NestingEdgesTest {
    private static final int CHILD = 1;
    private static final int TREE = 2;
    private static final int SCOPE = 3;
    private static final int GROUP = 4;

    public static void main(String[] args) {
        arguments();
        fortyThings();
        fortyOfEachKind();
        itemsInTheFortieth();
        treeInTheFortieth();
        roomAgainWhenClosed();
        refusedAboveForty();
        eightChildren();
        eightChildrenInWindows();
        eightChildrenInAFrame();
        childrenAndThings();
        closingTheLast();
        labelsOfIds();
        idsBeyondAnInt();
        idThatWouldBeNothing();
        nearNeedsAnItem();
        nearCountsOnce();
        linesByOneStep();
        groupAsLargeAsItMustBe();
        groupOfNothing();
        indentByTen();
        childCursor();
        childScrollUpToHighLessView();
        childScrollDownToNothing();
        wheelChildHasItsSides();
        wheelChildOfTheHoveredWindow();
        childHighOfNothing();
        Checks.finish("NestingEdgesTest");
    }

    /** Labels 0 .. 999; widths 1 .. 200; "A child, of a height 1 .. 200". */
    private static void arguments() {
        Checks.argumentRange("scope", 0, 999, Checks::inWindow, (ui, value) -> ui.scope(value));
        Checks.argumentRange("child, label", 0, 999, Checks::inWindow, (ui, value) -> ui.child(value, 10, 10));
        Checks.argumentRange("child, width", 1, 200, Checks::inWindow, (ui, value) -> ui.child(5, value, 10));
        Checks.argumentRange("child, height", 1, 200, Checks::inWindow, (ui, value) -> ui.child(5, 10, value));
        PanelFrames ui = Checks.inFrame();
        Checks.refusedArgument("no window, a wrong child", () -> ui.child(5, 10, 201));
        Checks.refusedArgument("no window, a wrong scope", () -> ui.scope(-1));
        Checks.same("the frame is on", ui.look(14), 1);
        Checks.refusedState("no window, a child", () -> ui.child(5, 10, 200));
        ui.begin();
        Checks.refusedState("no window, a scope", () -> ui.scope(0));
        ui.begin();
        Checks.refusedState("no window, a group", ui::group);
        ui.begin();
        Checks.refusedState("no window, near", ui::near);
        Checks.same("the frame is broken", ui.look(14), 0);
    }

    /** Window 0 with scopes in it, so that as many things are open. */
    private static PanelFrames withOpen(int things) {
        PanelFrames ui = Checks.inWindow();
        for (int k = 1; k < things; k++) {
            ui.scope(k);
        }
        Checks.same("so many are open", ui.look(13), things);
        return ui;
    }

    private static void put(PanelFrames ui, int kind) {
        switch (kind) {
            case CHILD: ui.child(7, 10, 10); break;
            case SCOPE: ui.scope(7); break;
            default: ui.group(); break;
        }
    }

    /** "At most 40 things are open": the 39th and the 40th may be, the 41st not. */
    private static void fortyThings() {
        int[] kinds = {CHILD, SCOPE, GROUP};
        for (int kind : kinds) {
            for (int before = 38; before <= 40; before++) {
                PanelFrames ui = withOpen(before);
                int thrown = Checks.thrownBy(() -> put(ui, kind));
                Checks.same("kind " + kind + " when " + before + " are open", thrown, before < 40 ? 0 : 2);
                Checks.same("open then", ui.look(13), before < 40 ? before + 1 : 0);
                Checks.same("the frame is on", ui.look(14), before < 40 ? 1 : 0);
                if (before < 40) {
                    Checks.same("it is closed", ui.close(), kind);
                }
            }
        }
    }

    private static void fortyOfEachKind() {
        int[] kinds = {SCOPE, GROUP};
        for (int kind : kinds) {
            PanelFrames ui = Checks.inWindow();
            for (int k = 1; k < 40; k++) {
                put(ui, kind);
                Checks.same("open", ui.look(13), k + 1);
            }
            Checks.refusedState("kind " + kind + " when 40 are open", () -> put(ui, kind));
        }
        PanelFrames ui = Checks.inFrame();
        ui.open(1);
        ui.popup(1, 100, 100);
        for (int k = 1; k < 40; k++) {
            ui.scope(0);
        }
        Checks.same("the popup is one of 40", ui.look(13), 40);
        Checks.refusedState("a scope in it when 40 are open", () -> ui.scope(0));
    }

    private static void itemsInTheFortieth() {
        PanelFrames ui = withOpen(40);
        ui.button(1, 10);
        ui.check(2);
        ui.slider(3, 10, 0, 1);
        ui.field(4, 10);
        ui.near();
        Checks.no("a tree that isn't open", ui.tree(5, 10));
        Checks.same("40 are open", ui.look(13), 40);
        for (int k = 39; k > 0; k--) {
            Checks.same("a scope is closed", ui.close(), SCOPE);
        }
        Checks.same("the window is closed", ui.close(), 0);
        Checks.same("the frame is on", ui.look(14), 1);
        ui.end();
    }

    /** A tree with number 1, told when as many things are open. */
    private static void treeInTheFortieth() {
        for (int before = 38; before <= 40; before++) {
            PanelFrames ui = withOpen(before);
            ui.slider(7, 10, 1, 2);
            int thrown = Checks.thrownBy(() -> ui.tree(7, 10));
            Checks.same("an open tree when " + before + " are open", thrown, before < 40 ? 0 : 2);
            Checks.same("open then", ui.look(13), before < 40 ? before + 1 : 0);
            if (before < 40) {
                Checks.same("it is closed", ui.close(), TREE);
            }
        }
    }

    private static void roomAgainWhenClosed() {
        PanelFrames ui = withOpen(40);
        ui.close();
        Checks.same("39", ui.look(13), 39);
        ui.group();
        Checks.same("40 again", ui.look(13), 40);
        Checks.same("the group is closed", ui.close(), GROUP);
        ui.scope(3);
        Checks.refusedState("41", ui::group);
        ui.begin();
        Checks.same("in the next frame none is open", ui.look(13), 0);
    }

    /** "Calls that throw IllegalArgumentException change nothing; this is asked for first." */
    private static void refusedAboveForty() {
        PanelFrames ui = withOpen(40);
        Checks.refusedArgument("a wrong scope", () -> ui.scope(1000));
        Checks.refusedArgument("a wrong child", () -> ui.child(1, 10, 0));
        Checks.refusedArgument("a wrong tree", () -> ui.tree(1, 201));
        Checks.same("40 are open", ui.look(13), 40);
        Checks.refusedState("a window", () -> ui.window(1, 0, 0, 100, 100));
    }

    /** "Or eight children were told in this frame": the 7th and 8th may be told, the 9th not. */
    private static void eightChildren() {
        for (int before = 6; before <= 8; before++) {
            PanelFrames ui = Checks.inWindow();
            for (int k = 0; k < before; k++) {
                ui.child(1, 10, 10);
                ui.close();
            }
            int thrown = Checks.thrownBy(() -> ui.child(1, 10, 10));
            Checks.same("a child behind " + before, thrown, before < 8 ? 0 : 2);
            Checks.same("the frame is on", ui.look(14), before < 8 ? 1 : 0);
        }
    }

    private static void eightChildrenInWindows() {
        PanelFrames ui = Checks.inFrame();
        ui.open(1);
        for (int window = 0; window < 7; window++) {
            ui.window(window, 0, 0, 100, 100);
            ui.child(1, 10, 10);
            ui.close();
            ui.close();
        }
        ui.popup(1, 100, 100);
        ui.child(1, 10, 10);
        Checks.same("the eighth, in the popup", ui.look(13), 2);
        Checks.refusedState("a ninth in the eighth", () -> ui.child(1, 10, 10));
    }

    private static void eightChildrenInAFrame() {
        PanelFrames ui = Checks.inWindow();
        for (int k = 0; k < 8; k++) {
            ui.child(1, 10, 10);
        }
        Checks.same("eight in one another", ui.look(13), 9);
        Checks.refusedState("the ninth", () -> ui.child(1, 10, 10));
        ui.begin();
        ui.window(0, 0, 0, 400, 400);
        for (int k = 0; k < 8; k++) {
            ui.child(1, 10, 10);
            ui.close();
        }
        ui.close();
        ui.end();
        ui.begin();
        ui.window(0, 0, 0, 400, 400);
        Checks.same("in the next frame eight may be told again",
            Checks.thrownBy(() -> ui.child(1, 10, 10)), 0);
    }

    private static void childrenAndThings() {
        PanelFrames ui = Checks.inWindow();
        for (int k = 0; k < 7; k++) {
            ui.child(k, 10, 10);
        }
        for (int k = 8; k < 39; k++) {
            ui.scope(k);
        }
        Checks.same("39 are open", ui.look(13), 39);
        ui.child(8, 10, 10);
        Checks.same("the eighth child is the fortieth", ui.look(13), 40);
        Checks.same("it is closed", ui.close(), CHILD);
        ui.scope(1);
        Checks.refusedState("neither room nor a number is left", () -> ui.child(8, 10, 10));
    }

    /** "IllegalStateException: in no frame, or nothing is open." */
    private static void closingTheLast() {
        PanelFrames ui = new PanelFrames();
        Checks.refusedState("in no frame", ui::close);
        ui.begin();
        ui.window(0, 0, 0, 100, 100);
        Checks.same("the last one", ui.close(), 0);
        Checks.refusedState("nothing is open", ui::close);
        Checks.same("the frame is broken", ui.look(14), 0);
        Checks.refusedState("the frame is over", ui::close);
    }

    private static int focusIn(int window, int... labels) {
        PanelFrames ui = new PanelFrames();
        ui.key(Checks.TAB, true);
        ui.begin();
        ui.window(window, 0, 0, 100, 100);
        for (int k = 0; k < labels.length - 1; k++) {
            ui.scope(labels[k]);
        }
        ui.button(labels[labels.length - 1], 10);
        for (int k = 0; k < labels.length; k++) {
            ui.close();
        }
        ui.end();
        return ui.look(2);
    }

    /** "31 times the ID on top of the PILE, and 1 and the label more"; a window's is 1000 and its number. */
    private static void labelsOfIds() {
        int[] labels = {0, 1, 998, 999};
        for (int label : labels) {
            Checks.same("window 0, label " + label, focusIn(0, label), 31001 + label);
            Checks.same("window 7, label " + label, focusIn(7, label), 31218 + label);
            Checks.same("in scope 0, label " + label, focusIn(0, 0, label), 31 * 31001 + 1 + label);
            Checks.same("in scope 999, label " + label, focusIn(0, 999, label), 31 * 32000 + 1 + label);
        }
    }

    /** "Without what is beyond an int": at its ends, and one step to each side. */
    private static void idsBeyondAnInt() {
        long[] rests = {-2, -1, 1, 2, (1L << 31) - 2, (1L << 31) - 1, 1L << 31, (1L << 31) + 1};
        for (long rest : rests) {
            Checks.same("the ID of " + rest, focusIn(0, Checks.labelsFor(0, rest)), (int) rest);
        }
    }

    /** "(1, if that is 0)": it is the same then as what has the ID 1. */
    private static void idThatWouldBeNothing() {
        Checks.same("1 before 0", focusIn(0, Checks.labelsFor(0, -1)), -1);
        Checks.same("0", focusIn(0, Checks.labelsFor(0, 0)), 1);
        Checks.same("1 behind 0", focusIn(0, Checks.labelsFor(0, 1)), 1);
        int[] labels = Checks.labelsFor(0, 0);
        int last = labels[labels.length - 1];
        Checks.yes("the next label is one", last < 999);
        PanelFrames ui = Checks.inWindow();
        for (int k = 0; k < labels.length - 1; k++) {
            ui.scope(labels[k]);
        }
        ui.slider(last, 20, 5, 9);
        Checks.same("kept for 1", ui.kept(1), 5);
        Checks.same("nothing is kept for 0", ui.kept(0), 0);
        Checks.same("the next label has the same ID", ui.slider(last + 1, 20, 0, 9), 5);
        Checks.same("one is kept", ui.look(12), 1);
        ui.scope(last);
        ui.slider(7, 20, 6, 9);
        Checks.same("in its scope the ID counts as 1", ui.kept(31 + 8), 6);
    }

    /** "With NEAR before it, and an item before it in this window, child or group". */
    private static void nearNeedsAnItem() {
        PanelFrames ui = Checks.inWindow();
        ui.near();
        ui.button(1, 10);
        Checks.latest("the window's first", ui, 4, 16, 14, 28);
        ui.near();
        ui.button(1, 10);
        Checks.latest("the window's second", ui, 18, 16, 28, 28);
        ui.near();
        ui.child(2, 50, 50);
        Checks.latest("a child near it", ui, 32, 16, 82, 66);
        ui.near();
        ui.button(1, 10);
        Checks.latest("the child's first", ui, 34, 18, 44, 30);
        ui.near();
        ui.button(1, 10);
        Checks.latest("the child's second", ui, 48, 18, 58, 30);
        ui.close();
        ui.near();
        ui.group();
        ui.near();
        ui.button(1, 10);
        Checks.latest("the group's first", ui, 86, 16, 96, 28);
        ui.near();
        ui.button(1, 10);
        Checks.latest("the group's second", ui, 100, 16, 110, 28);
        ui.close();
        Checks.latest("the group", ui, 86, 16, 110, 28);
        ui.close();
        ui.window(1, 200, 0, 100, 100);
        ui.near();
        ui.button(1, 10);
        Checks.latest("the next window's first", ui, 204, 16, 214, 28);
    }

    private static void nearCountsOnce() {
        PanelFrames ui = Checks.inWindow();
        ui.button(1, 10);
        ui.near();
        ui.button(2, 10);
        Checks.latest("near", ui, 18, 16, 28, 28);
        ui.button(3, 10);
        Checks.latest("the next isn't", ui, 4, 32, 14, 44);
        ui.near();
        ui.scope(1);
        ui.button(4, 10);
        Checks.latest("a scope between is no item", ui, 18, 32, 28, 44);
        ui.close();
        ui.near();
        Checks.refusedArgument("a wrong one", () -> ui.button(1, 0));
        ui.button(5, 10);
        Checks.latest("a wrong one between is none", ui, 32, 32, 42, 44);
    }

    /** "4 below the line before (which ends with its lowest item)". */
    private static void linesByOneStep() {
        int[] heights = {1, 11, 12, 13, 200};
        for (int height : heights) {
            PanelFrames ui = Checks.inWindow();
            ui.check(1);
            ui.near();
            ui.child(2, 10, height);
            ui.close();
            ui.near();
            ui.check(3);
            Checks.latest("at the line's top", ui, 34, 16, 46, 28);
            ui.check(4);
            int top = 20 + Math.max(12, height);
            Checks.latest("a child " + height + " high", ui, 4, top, 16, top + 12);
        }
    }

    /** "As wide and high as it must be to have all that is in it." */
    private static void groupAsLargeAsItMustBe() {
        PanelFrames ui = Checks.inWindow();
        ui.group();
        ui.child(1, 1, 1);
        ui.close();
        ui.close();
        Checks.latest("one of the smallest", ui, 4, 16, 5, 17);
        ui.group();
        ui.button(1, 10);
        ui.child(2, 200, 3);
        ui.button(9, 50);
        ui.close();
        ui.button(3, 5);
        ui.close();
        Checks.latest("the widest isn't the last", ui, 4, 21, 204, 56);
        ui.group();
        ui.child(4, 10, 100);
        ui.close();
        ui.near();
        ui.check(5);
        ui.close();
        Checks.latest("the lowest isn't the last", ui, 4, 60, 30, 160);
        ui.close();
        Checks.same("HIGH", ui.place(0, 5), 144);
    }

    /** "(0 and 0 without any)". */
    private static void groupOfNothing() {
        PanelFrames ui = Checks.inWindow();
        ui.group();
        Checks.same("close", ui.close(), GROUP);
        Checks.latest("the first", ui, 4, 16, 4, 16);
        ui.group();
        ui.scope(1);
        ui.close();
        ui.close();
        Checks.latest("with a scope alone, 4 below", ui, 4, 20, 4, 20);
        ui.near();
        ui.group();
        ui.close();
        Checks.latest("4 right", ui, 8, 20, 8, 20);
        ui.group();
        ui.group();
        ui.close();
        ui.close();
        Checks.latest("one in the other", ui, 4, 24, 4, 24);
        ui.close();
        Checks.same("HIGH", ui.place(0, 5), 8);
        Checks.same("a group isn't drawn", ui.end(), 1);
    }

    /** "INDENT is 10 more, and it must be closed (then INDENT is less again)". */
    private static void indentByTen() {
        PanelFrames ui = Checks.inWindow();
        int[] trees = {1, 2, 3};
        for (int tree : trees) {
            ui.slider(tree, 50, 1, 2);
            ui.near();
            Checks.yes("tree " + tree, ui.tree(tree, 50));
            ui.check(9);
            Checks.same("indent in " + tree, ui.look(5), 4 + 10 * tree);
        }
        ui.group();
        ui.check(9);
        Checks.same("a group lies as far", ui.look(5), 34);
        ui.check(9);
        Checks.same("in it INDENT is 0", ui.look(5), 34);
        ui.close();
        for (int left = 24; left >= 4; left -= 10) {
            Checks.same("a tree is closed", ui.close(), TREE);
            ui.check(9);
            Checks.same("less again", ui.look(5), left);
        }
    }

    /** "Its cursor begins 2 right of and below its corner, less its scroll." */
    private static void childCursor() {
        int[] sizes = {1, 2, 3, 199, 200};
        for (int size : sizes) {
            PanelFrames ui = Checks.inWindow();
            ui.child(1, size, size);
            Checks.latest("the child", ui, 4, 16, 4 + size, 16 + size);
            ui.check(2);
            Checks.latest("in it", ui, 6, 18, 18, 30);
            ui.close();
            ui.check(3);
            Checks.latest("behind it", ui, 4, 20 + size, 16, 32 + size);
        }
    }

    /** Child 0 with VIEW 50 and HIGH as said, in window 0; answers its scroll. */
    private static int childFrame(PanelFrames ui, int high, int view, int lines) {
        ui.wheel(lines);
        ui.begin();
        ui.window(0, 0, 0, 200, 200);
        ui.child(1, 60, view);
        ui.child(2, 20, high);
        int scroll = 18 - ui.look(6);
        ui.close();
        ui.close();
        ui.close();
        ui.end();
        return scroll;
    }

    private static PanelFrames withHigh(int high) {
        PanelFrames ui = new PanelFrames();
        ui.point(60, 30);
        childFrame(ui, high, 50, 0);
        return ui;
    }

    /** "All are brought between as those of windows"; "its VIEW is its height". */
    private static void childScrollUpToHighLessView() {
        int[] highs = {1, 49, 50, 51, 59, 60, 61, 200};
        for (int high : highs) {
            PanelFrames ui = withHigh(high);
            int most = Math.max(0, high - 50);
            Checks.same("HIGH " + high + ", 1 line", childFrame(ui, high, 50, 1), Math.min(10, most));
            Checks.same("HIGH " + high + ", 2 lines", childFrame(ui, high, 50, 1), Math.min(20, most));
            Checks.same("HIGH " + high + ", many lines", childFrame(ui, high, 50, 9), Math.min(110, most));
            Checks.same("HIGH " + high + ", no line", childFrame(ui, high, 50, 0), Math.min(110, most));
            Checks.same("the window didn't scroll", ui.place(0, 4), 0);
        }
        int[] views = {99, 100, 101};
        for (int view : views) {
            PanelFrames ui = withHigh(100);
            childFrame(ui, 100, 50, 9);
            Checks.same("VIEW " + view, childFrame(ui, 100, view, 0), Math.max(0, 100 - view));
        }
    }

    private static void childScrollDownToNothing() {
        int[] highs = {50, 59, 60, 61};
        for (int high : highs) {
            PanelFrames ui = withHigh(high);
            childFrame(ui, high, 50, 9);
            Checks.same("HIGH " + high + ", 1 line back", childFrame(ui, high, 50, -1), Math.max(0, high - 60));
            Checks.same("HIGH " + high + ", 2 lines back", childFrame(ui, high, 50, -1), 0);
            Checks.same("HIGH " + high + ", 3 lines back", childFrame(ui, high, 50, -9), 0);
        }
    }

    private static int scrolledAt(int x, int y) {
        PanelFrames ui = withHigh(200);
        ui.point(x, y);
        return childFrame(ui, 200, 50, 1);
    }

    /** "Whose clip then has the mouse": the child at 4, 16 .. 64, 66, beside its inner one at 6 .. 26. */
    private static void wheelChildHasItsSides() {
        Checks.same("left top", scrolledAt(4, 16), 10);
        Checks.same("left of it", scrolledAt(3, 16), 0);
        Checks.same("above it", scrolledAt(4, 15), 0);
        Checks.same("right bottom", scrolledAt(63, 65), 10);
        Checks.same("right of it", scrolledAt(64, 65), 0);
        Checks.same("below it", scrolledAt(63, 66), 0);
        Checks.same("left of the one in it", scrolledAt(5, 30), 10);
        Checks.same("in that one, the last one told", scrolledAt(6, 30), 0);
        Checks.same("its last column", scrolledAt(25, 30), 0);
        Checks.same("right of that", scrolledAt(26, 30), 10);
        Checks.same("above that", scrolledAt(20, 17), 10);
    }

    /** "Told in the frame before in the hovered window": not in the one before that, nor elsewhere. */
    private static void wheelChildOfTheHoveredWindow() {
        PanelFrames ui = withHigh(200);
        ui.begin();
        ui.window(1, 500, 500, 200, 200);
        ui.child(1, 60, 50);
        ui.child(2, 20, 200);
        ui.close();
        ui.close();
        ui.close();
        ui.window(0, 0, 0, 200, 200);
        ui.close();
        ui.end();
        Checks.same("its child wasn't told in the frame before", childFrame(ui, 200, 50, 1), 0);
        Checks.same("now it was", childFrame(ui, 200, 50, 1), 10);
    }

    private static void childHighOfNothing() {
        PanelFrames ui = withHigh(200);
        childFrame(ui, 200, 50, 9);
        ui.begin();
        ui.window(0, 0, 0, 200, 200);
        ui.child(1, 60, 50);
        ui.close();
        ui.close();
        ui.end();
        Checks.same("without an item HIGH is 0, so is the scroll", childFrame(ui, 200, 50, 0), 0);
        Checks.same("HIGH is 200 again", childFrame(ui, 200, 50, 1), 10);
    }
}
