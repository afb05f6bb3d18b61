/** Promises 7, 8 and 13: frames begin, end and are broken; what is open is closed. */
public final class FramesTest {
    public static void main(String[] args) {
        beginAndEnd();
        endWithSomethingOpen();
        closing();
        closingNothing();
        brokenFrameForgets();
        brokenFrameToldNothing();
        brokenFrameKeepsTheDrawing();
        argumentsComeFirst();
        argumentsChangeNothing();
        everyStateBreaks();
        outsideNothingBreaks();
        activeMustBeTold();
        focusMustBeTold();
        childCountsAsTold();
        Checks.finish("FramesTest");
    }

    private static void beginAndEnd() {
        PanelFrames ui = new PanelFrames();
        Checks.same("no frame", ui.look(14), 0);
        Checks.same("begin", ui.begin(), 0);
        Checks.same("a frame", ui.look(14), 1);
        Checks.same("end of an empty frame", ui.end(), 0);
        Checks.same("no frame again", ui.look(14), 0);
        Checks.refusedState("end in no frame", ui::end);
        ui.begin();
        Checks.refusedState("begin in a frame", ui::begin);
        Checks.same("that broke it", ui.look(14), 0);
        Checks.same("begin behind a broken frame", ui.begin(), 0);
        ui.window(0, 0, 0, 100, 100);
        ui.close();
        Checks.same("end answers the commands", ui.end(), 1);
    }

    private static void endWithSomethingOpen() {
        PanelFrames ui = new PanelFrames();
        ui.begin();
        ui.window(0, 0, 0, 100, 100);
        Checks.refusedState("end with a window open", ui::end);
        Checks.same("the frame is over", ui.look(14), 0);
        Checks.same("nothing is open", ui.look(13), 0);
        Checks.same("no drawing", ui.drawn(0), 0);
        ui.begin();
        ui.window(0, 0, 0, 100, 100);
        ui.scope(1);
        ui.close();
        ui.close();
        Checks.same("end", ui.end(), 1);
    }

    private static void closing() {
        PanelFrames ui = new PanelFrames();
        ui.point(10, 20);
        ui.begin();
        ui.window(0, 0, 0, 100, 100);
        ui.tree(1, 40);
        ui.close();
        ui.end();
        clickTree(ui);
        ui.begin();
        ui.window(0, 0, 0, 100, 100);
        Checks.yes("the tree is open", ui.tree(1, 40));
        ui.child(2, 30, 30);
        ui.scope(3);
        ui.group();
        Checks.same("five are open", ui.look(13), 5);
        Checks.same("close a group", ui.close(), 4);
        Checks.same("close a scope", ui.close(), 3);
        Checks.same("close a child", ui.close(), 1);
        Checks.same("close a tree", ui.close(), 2);
        Checks.same("one is open", ui.look(13), 1);
        Checks.same("close a window", ui.close(), 0);
        Checks.same("none is open", ui.look(13), 0);
        ui.open(1);
        ui.popup(1, 40, 40);
        Checks.same("close the popup", ui.close(), 0);
        ui.end();
    }

    private static void clickTree(PanelFrames ui) {
        for (int half = 0; half < 2; half++) {
            ui.press(half == 0);
            ui.begin();
            ui.window(0, 0, 0, 100, 100);
            if (ui.tree(1, 40)) {
                ui.close();
            }
            ui.close();
            ui.end();
        }
    }

    private static void closingNothing() {
        PanelFrames ui = new PanelFrames();
        Checks.refusedState("close in no frame", ui::close);
        ui.begin();
        Checks.refusedState("close with nothing open", ui::close);
        Checks.same("that broke the frame", ui.look(14), 0);
    }

    /** A frame behind which window 0 is hovered, button 1 active and in focus, and a popup could be open. */
    private static PanelFrames pressedButton() {
        PanelFrames ui = new PanelFrames();
        ui.point(10, 20);
        tellButton(ui);
        ui.press(true);
        tellButton(ui);
        return ui;
    }

    private static void tellButton(PanelFrames ui) {
        ui.begin();
        ui.window(0, 0, 0, 100, 100);
        ui.button(1, 40);
        ui.close();
        ui.end();
    }

    private static void brokenFrameForgets() {
        PanelFrames ui = pressedButton();
        int id = Checks.idIn(0, 1);
        Checks.same("active", ui.look(0), id);
        Checks.same("hovered", ui.look(1), id);
        Checks.same("focus", ui.look(2), id);
        ui.key(Checks.ENTER, true);
        ui.begin();
        ui.open(5);
        ui.window(0, 0, 0, 100, 100);
        ui.button(1, 40);
        Checks.same("held", ui.look(3), id);
        Checks.same("hovered window", ui.look(4), 0);
        Checks.same("popup", ui.look(9), 5);
        Checks.refusedState("a window in a window", () -> ui.window(1, 0, 0, 50, 50));
        Checks.same("active no more", ui.look(0), 0);
        Checks.same("hovered no more", ui.look(1), 0);
        Checks.same("no focus", ui.look(2), 0);
        Checks.same("held no more", ui.look(3), 0);
        Checks.same("no hovered window", ui.look(4), -1);
        Checks.same("no popup", ui.look(9), -1);
        Checks.same("the mouse is pressed as it was", ui.look(10), 1);
        Checks.same("nothing open", ui.look(13), 0);
        Checks.same("no frame", ui.look(14), 0);
    }

    private static void brokenFrameToldNothing() {
        PanelFrames ui = new PanelFrames();
        ui.point(35, 45);
        ui.begin();
        ui.window(3, 30, 40, 100, 100);
        Checks.same("told", ui.place(3, 8), 1);
        ui.close();
        Checks.refusedState("close", ui::close);
        Checks.same("not told in a broken frame", ui.place(3, 8), 0);
        Checks.same("it has its place, left", ui.place(3, 0), 30);
        Checks.same("it has its place, top", ui.place(3, 1), 40);
        ui.begin();
        Checks.same("no window was told before", ui.look(4), -1);
        ui.window(3, 300, 400, 100, 100);
        Checks.same("still where it was told first", ui.place(3, 0), 30);
        ui.close();
        ui.end();
        ui.begin();
        Checks.same("now it was", ui.look(4), 3);
        ui.end();
    }

    private static void brokenFrameKeepsTheDrawing() {
        PanelFrames ui = new PanelFrames();
        ui.begin();
        ui.window(0, 0, 0, 100, 100);
        ui.button(1, 40);
        ui.close();
        Checks.same("a drawing", ui.end(), 3);
        ui.begin();
        Checks.same("in a frame it is the last one", ui.drawn(0), 3);
        ui.window(1, 500, 500, 60, 60);
        Checks.refusedState("end", ui::end);
        Checks.same("commands stay", ui.drawn(0), 3);
        Checks.same("vertices stay", ui.drawn(2), 16);
        Checks.quad("the window stays", ui, 0, 0, 0, 100, 100, 1);
        Checks.quad("the button stays", ui, 2, 4, 16, 44, 28, 3);
    }

    private static void argumentsComeFirst() {
        PanelFrames ui = new PanelFrames();
        Checks.refusedArgument("window in no frame", () -> ui.window(8, 0, 0, 100, 100));
        Checks.refusedArgument("open in no frame", () -> ui.open(-1));
        Checks.refusedArgument("popup in no frame", () -> ui.popup(1000, 100, 100));
        Checks.refusedArgument("button in no frame", () -> ui.button(0, 0));
        Checks.refusedArgument("check in no frame", () -> ui.check(1000));
        Checks.refusedArgument("slider in no frame", () -> ui.slider(0, 1, 0, 1));
        Checks.refusedArgument("field in no frame", () -> ui.field(0, 201));
        Checks.refusedArgument("tree in no frame", () -> ui.tree(-1, 10));
        Checks.refusedArgument("child in no frame", () -> ui.child(0, 10, 0));
        Checks.refusedArgument("scope in no frame", () -> ui.scope(1000));
    }

    private static void argumentsChangeNothing() {
        PanelFrames ui = pressedButton();
        ui.begin();
        ui.open(5);
        ui.window(0, 0, 0, 100, 100);
        ui.button(1, 40);
        ui.near();
        Checks.refusedArgument("a wrong window in a window", () -> ui.window(-1, 0, 0, 50, 50));
        Checks.refusedArgument("a wrong button", () -> ui.button(2, 201));
        Checks.refusedArgument("a wrong child", () -> ui.child(2, 30, 201));
        Checks.same("the frame is on", ui.look(14), 1);
        Checks.same("active as before", ui.look(0), Checks.idIn(0, 1));
        Checks.same("open as before", ui.look(13), 1);
        Checks.same("the popup as before", ui.look(9), 5);
        Checks.latest("the latest item", ui, 4, 16, 44, 28);
        ui.button(2, 10);
        Checks.latest("near is not gone", ui, 48, 16, 58, 28);
        ui.close();
        ui.end();
    }

    private static void breaks(String what, PanelFrames ui, Checks.Call call) {
        Checks.same(what + ": a frame is on", ui.look(14), 1);
        Checks.refusedState(what, call);
        Checks.same(what + " broke the frame", ui.look(14), 0);
        ui.begin();
    }

    private static void everyStateBreaks() {
        PanelFrames ui = new PanelFrames();
        ui.begin();
        breaks("button", ui, () -> ui.button(1, 10));
        breaks("check", ui, () -> ui.check(1));
        breaks("slider", ui, () -> ui.slider(1, 10, 0, 1));
        breaks("field", ui, () -> ui.field(1, 10));
        breaks("tree", ui, () -> ui.tree(1, 10));
        breaks("child", ui, () -> ui.child(1, 10, 10));
        breaks("scope", ui, () -> ui.scope(1));
        breaks("group", ui, ui::group);
        breaks("near", ui, ui::near);
        breaks("close", ui, ui::close);
        ui.window(0, 0, 0, 50, 50);
        breaks("a window twice", ui, () -> {
            ui.close();
            ui.window(0, 0, 0, 50, 50);
        });
        ui.open(1);
        ui.window(0, 0, 0, 50, 50);
        breaks("the popup in a window", ui, () -> ui.popup(1, 50, 50));
    }

    private static void outsideNothingBreaks() {
        PanelFrames ui = pressedButton();
        int id = Checks.idIn(0, 1);
        Checks.refusedState("window", () -> ui.window(0, 0, 0, 50, 50));
        Checks.refusedState("open", () -> ui.open(1));
        Checks.refusedState("popup", () -> ui.popup(1, 50, 50));
        Checks.refusedState("button", () -> ui.button(1, 10));
        Checks.refusedState("check", () -> ui.check(1));
        Checks.refusedState("slider", () -> ui.slider(1, 10, 0, 1));
        Checks.refusedState("field", () -> ui.field(1, 10));
        Checks.refusedState("tree", () -> ui.tree(1, 10));
        Checks.refusedState("child", () -> ui.child(1, 10, 10));
        Checks.refusedState("scope", () -> ui.scope(1));
        Checks.refusedState("group", ui::group);
        Checks.refusedState("near", ui::near);
        Checks.refusedState("close", ui::close);
        Checks.refusedState("end", ui::end);
        Checks.same("active as before", ui.look(0), id);
        Checks.same("focus as before", ui.look(2), id);
        Checks.same("told as before", ui.place(0, 8), 1);
    }

    private static void activeMustBeTold() {
        PanelFrames ui = pressedButton();
        tellButton(ui);
        Checks.same("told: active", ui.look(0), Checks.idIn(0, 1));
        ui.begin();
        ui.window(0, 0, 0, 100, 100);
        ui.button(2, 40);
        Checks.same("in the frame it is active yet", ui.look(0), Checks.idIn(0, 1));
        ui.close();
        ui.end();
        Checks.same("not told: not active", ui.look(0), 0);
        Checks.same("nor in focus", ui.look(2), 0);
    }

    private static void focusMustBeTold() {
        PanelFrames ui = pressedButton();
        ui.press(false);
        tellButton(ui);
        ui.key(Checks.ENTER, true);
        tellButton(ui);
        Checks.same("focus", ui.look(2), Checks.idIn(0, 1));
        Checks.same("held", ui.look(3), Checks.idIn(0, 1));
        ui.begin();
        ui.end();
        Checks.same("not told: no focus", ui.look(2), 0);
        Checks.same("not told: not held", ui.look(3), 0);
    }

    private static void childCountsAsTold() {
        PanelFrames ui = pressedButton();
        ui.begin();
        ui.window(0, 0, 0, 100, 100);
        ui.child(1, 40, 40);
        ui.close();
        ui.close();
        ui.end();
        Checks.same("a child with that ID: active", ui.look(0), Checks.idIn(0, 1));
        Checks.same("a child with that ID: focus", ui.look(2), Checks.idIn(0, 1));
        ui.begin();
        ui.window(0, 0, 0, 100, 100);
        ui.scope(1);
        ui.close();
        ui.close();
        ui.end();
        Checks.same("a scope is no item: not active", ui.look(0), 0);
        Checks.same("a scope is no item: no focus", ui.look(2), 0);
    }
}
