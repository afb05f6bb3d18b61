import java.util.ArrayList;
import java.util.Arrays;
import java.util.List;
import java.util.Random;

/**
 * Runs of arbitrary calls, all written from fixed seeds: nothing but what the document names is ever
 * thrown, wrong arguments change nothing, a state that is refused ends the frame, and a drawing always
 * fits together. An object answers for 512 calls alone, so a run is told again to a new object up to
 * the call that is looked at.
 */
public final class RoughRunsTest {
    private static final int CALLS = 512;
    private static final int SNAPSHOT = 15 + 81 + 3;
    private static final int LAST_LOOKED_AT = CALLS - 2 * SNAPSHOT - 1;

    private static final int[] EDGES = {
        Integer.MIN_VALUE, -1001, -101, -100, -10, -1, 0, 1, 2, 12, 29, 30, 39, 40, 126, 200, 201, 400, 401,
        999, 1000, 1001, 31002, Integer.MAX_VALUE,
    };

    private interface Step {
        int of(PanelFrames ui);
    }

    private final Random random;
    private final int wildPercent;
    private final List<Step> steps = new ArrayList<>();
    private final List<Integer> thrown = new ArrayList<>();
    private final boolean[] told = new boolean[9];
    private boolean frameOn;
    private int open;
    private int ended;

    private RoughRunsTest(long seed, int wildPercent) {
        random = new Random(seed);
        this.wildPercent = wildPercent;
    }

    public static void main(String[] args) {
        int ended = 0;
        for (long seed = 0; seed < 300; seed++) {
            RoughRunsTest run = new RoughRunsTest(seed, seed % 3 == 0 ? 20 : 2);
            run.run(CALLS);
            ended += run.ended;
            run.lookAtRefusals();
            run.lookAtDrawings();
        }
        Checks.yes("many frames end: " + ended, ended > 3000);
        for (long seed = 1000; seed < 1006; seed++) {
            new RoughRunsTest(seed, 2).run(20000);
        }
        sameCallsSameAnswers();
        aFrameThatNeverEnds();
        Checks.finish("RoughRunsTest");
    }

    /** Makes calls on a new object, and keeps in mind what they were and what they threw. */
    private void run(int calls) {
        PanelFrames ui = new PanelFrames();
        for (int k = 0; k < calls; k++) {
            boolean wild = random.nextInt(100) < wildPercent;
            Step step = wild ? wildStep() : plainStep();
            int kind = Checks.thrownBy(() -> step.of(ui));
            steps.add(step);
            thrown.add(kind);
            if (kind == 3) {
                Checks.same("a call throws what the document doesn't name", kind, 0);
            } else if (kind == 2) {
                forget();
            }
        }
    }

    private void forget() {
        frameOn = false;
        open = 0;
    }

    private PanelFrames toldUpTo(int step) {
        PanelFrames ui = new PanelFrames();
        for (int k = 0; k < step; k++) {
            Step one = steps.get(k);
            Checks.thrownBy(() -> one.of(ui));
        }
        return ui;
    }

    private void lookAtRefusals() {
        int looks = 0;
        for (int k = 0; k < Math.min(steps.size(), LAST_LOOKED_AT) && looks < 12; k++) {
            if (thrown.get(k) != 0) {
                looks++;
                lookAtRefusal(k);
            }
        }
    }

    private void lookAtRefusal(int k) {
        PanelFrames ui = toldUpTo(k);
        int[] before = snapshot(ui);
        Checks.same("the same is thrown again", Checks.thrownBy(() -> steps.get(k).of(ui)), thrown.get(k));
        int[] after = snapshot(ui);
        if (thrown.get(k) == 1) {
            Checks.yes("wrong arguments change nothing", Arrays.equals(before, after));
        } else if (before[14] == 0) {
            Checks.yes("outside of a frame nothing changes", Arrays.equals(before, after));
        } else {
            isBroken(before, after);
        }
    }

    private static void isBroken(int[] before, int[] after) {
        int[] due = {0, 0, 0, 0, -1};
        for (int what = 0; what < due.length; what++) {
            Checks.same("broken: look(" + what + ")", after[what], due[what]);
        }
        Checks.same("broken: popup", after[9], -1);
        Checks.same("broken: open", after[13], 0);
        Checks.same("broken: frame", after[14], 0);
        for (int window = 0; window < 9; window++) {
            Checks.same("broken: told", after[15 + 9 * window + 8], 0);
        }
        for (int what = 0; what < 3; what++) {
            Checks.same("broken: the drawing stays", after[96 + what], before[96 + what]);
        }
    }

    private static int[] snapshot(PanelFrames ui) {
        int[] all = new int[SNAPSHOT];
        for (int what = 0; what < 15; what++) {
            all[what] = ui.look(what);
        }
        for (int k = 0; k < 81; k++) {
            all[15 + k] = ui.place(k / 9, k % 9);
        }
        for (int what = 0; what < 3; what++) {
            all[96 + what] = ui.drawn(what);
        }
        return all;
    }

    /** Looks at the drawing behind some steps: at all commands, and at as many indices as there are calls for. */
    private void lookAtDrawings() {
        for (int k = 40; k < 160; k += 40) {
            drawingFits(toldUpTo(k), CALLS - k);
        }
    }

    private static void drawingFits(PanelFrames ui, int calls) {
        int commands = ui.drawn(0);
        int indices = ui.drawn(1);
        int vertices = ui.drawn(2);
        boolean fits = indices / 6 == vertices / 4 && indices % 6 == 0 && vertices % 4 == 0;
        fits &= ui.command(commands, 0) == -1 && ui.index(indices) == -1 && ui.vertex(vertices, 0) == -10000;
        int left = calls - 6;
        int at = 0;
        for (int k = 0; k < commands && left >= 8; k++) {
            int[] command = new int[8];
            for (int what = 0; what < 8; what++) {
                command[what] = ui.command(k, what);
            }
            left -= 8;
            fits &= command[6] == at && command[7] > 0 && clipIsOnTheScreen(command);
            for (int end = at + command[7]; at < end && left > 0; at++) {
                int index = ui.index(at);
                left--;
                fits &= index < 64 && command[5] + index == at / 6 * 4 + new int[] {0, 1, 2, 0, 2, 3}[at % 6];
            }
        }
        fits &= left < 8 || at == indices;
        Checks.yes("the drawing fits together", fits);
    }

    private static boolean clipIsOnTheScreen(int[] command) {
        return command[0] >= 0 && command[1] >= 0 && command[2] <= 1000 && command[3] <= 1000
            && command[0] < command[2] && command[1] < command[3];
    }

    private int edge() {
        return EDGES[random.nextInt(EDGES.length)];
    }

    private int close(PanelFrames ui) {
        int kind = ui.close();
        open--;
        return kind;
    }

    private int opened(boolean isOpen) {
        open += isOpen ? 1 : 0;
        return isOpen ? 1 : 0;
    }

    private static int one(boolean yes) {
        return yes ? 1 : 0;
    }

    private Step wildStep() {
        int a = edge();
        int b = edge();
        int c = edge();
        int d = edge();
        int e = edge();
        int window = random.nextInt(8);
        boolean down = random.nextBoolean();
        switch (random.nextInt(22)) {
            case 0: return ui -> one(ui.point(a, b));
            case 1: return ui -> one(ui.wheel(a));
            case 2: return ui -> one(ui.key(a, down));
            case 3: return ui -> one(ui.letter(a));
            case 4: return ui -> opened(ui.window(a, b, c, d, e) || true);
            case 5: return ui -> opened(ui.window(window, a, b, 100, 100) || true);
            case 6: return ui -> one(ui.open(a));
            case 7: return ui -> opened(ui.popup(a, b, c));
            case 8: return ui -> one(ui.button(a, b));
            case 9: return ui -> ui.check(a);
            case 10: return ui -> ui.slider(a, b, c, d);
            case 11: return ui -> ui.field(a, b);
            case 12: return ui -> opened(ui.tree(a, b));
            case 13: return ui -> { ui.child(a, b, c); return opened(true); };
            case 14: return ui -> { ui.scope(a); return opened(true); };
            case 15: return ui -> ui.look(a);
            case 16: return ui -> ui.place(a, b);
            case 17: return ui -> ui.kept(a);
            case 18: return ui -> ui.text(a, b);
            case 19: return ui -> ui.command(a, b);
            case 20: return ui -> ui.index(a);
            default: return ui -> ui.vertex(a, b);
        }
    }

    /** Calls that mostly fit, so that frames get far. */
    private Step plainStep() {
        if (!frameOn) {
            return random.nextInt(3) == 0 ? this::begin : event();
        }
        return open == 0 ? betweenWindows() : inAWindow();
    }

    private int begin(PanelFrames ui) {
        int taken = ui.begin();
        frameOn = true;
        Arrays.fill(told, false);
        return taken;
    }

    private int end(PanelFrames ui) {
        int commands = ui.end();
        frameOn = false;
        ended++;
        return commands;
    }

    private Step event() {
        int x = random.nextInt(200);
        int y = random.nextInt(150);
        int lines = random.nextInt(19) - 9;
        int letter = 32 + random.nextInt(95);
        int key = random.nextInt(6);
        boolean down = random.nextBoolean();
        switch (random.nextInt(6)) {
            case 0: return ui -> one(ui.point(x, y));
            case 1: return ui -> one(ui.press(down));
            case 2: return ui -> one(ui.wheel(lines));
            case 3: return ui -> one(ui.letter(letter));
            default: return ui -> one(ui.key(key, down));
        }
    }

    private Step betweenWindows() {
        int label = random.nextInt(3);
        int width = 40 + random.nextInt(90);
        int height = 30 + random.nextInt(90);
        switch (random.nextInt(9)) {
            case 0: return ui -> one(ui.open(label));
            case 1: return ui -> opened(ui.popup(label, width, height));
            case 2: return ui -> one(ui.dismiss());
            case 3: return event();
            case 4:
            case 5: return this::end;
            default: return aWindow(width, height);
        }
    }

    private Step aWindow(int width, int height) {
        int window = random.nextInt(8);
        int x = random.nextInt(150) - 50;
        int y = random.nextInt(150) - 50;
        if (told[window] && random.nextInt(20) != 0) {
            return event();
        }
        told[window] = true;
        return ui -> opened(ui.window(window, x, y, width, height) || true);
    }

    private Step inAWindow() {
        int label = random.nextInt(4);
        int other = random.nextInt(1000);
        int width = 2 + random.nextInt(60);
        int height = 1 + random.nextInt(60);
        int low = -random.nextInt(20);
        int high = 1 + random.nextInt(20);
        switch (random.nextInt(random.nextInt(30) == 0 ? 16 : 14)) {
            case 0: return ui -> one(ui.button(label, width));
            case 1: return ui -> ui.check(label);
            case 2: return ui -> ui.slider(label, width, low, high);
            case 3: return ui -> ui.field(label, width);
            case 4: return ui -> opened(ui.tree(label, width));
            case 5: return ui -> { ui.child(label, width, height); return opened(true); };
            case 6: return ui -> { ui.scope(other); return opened(true); };
            case 7: return ui -> { ui.group(); return opened(true); };
            case 8: return ui -> { ui.near(); return 0; };
            case 9: return ui -> one(ui.button(other, width));
            case 14: return ui -> one(ui.open(label));
            case 15: return this::end;
            default: return this::close;
        }
    }

    private static void sameCallsSameAnswers() {
        RoughRunsTest run = new RoughRunsTest(42, 5);
        run.run(LAST_LOOKED_AT);
        PanelFrames one = new PanelFrames();
        PanelFrames other = new PanelFrames();
        for (Step step : run.steps) {
            int[] answers = new int[2];
            int first = Checks.thrownBy(() -> answers[0] = step.of(one));
            int second = Checks.thrownBy(() -> answers[1] = step.of(other));
            Checks.same("the same is thrown", second, first);
            Checks.same("the same is answered", answers[1], answers[0]);
        }
        Checks.yes("all is the same then", Arrays.equals(snapshot(one), snapshot(other)));
    }

    /** Far more calls than are promised: no room is filled, nothing is thrown by the machine. */
    private static void aFrameThatNeverEnds() {
        PanelFrames ui = new PanelFrames();
        int thrown = Checks.thrownBy(() -> {
            ui.begin();
            for (int window = 0; window < 8; window++) {
                ui.window(window, 0, 0, 400, 400);
                for (int k = 0; k < 2000; k++) {
                    if (k % 78 != 0) {
                        ui.near();
                    }
                    ui.button(111 + k % 800, 1);
                }
                ui.close();
            }
            ui.end();
            ui.begin();
            ui.end();
        });
        Checks.yes("a long frame throws nothing of its own", thrown != 3);
    }
}
