import java.util.Arrays;
import java.util.Random;

/**
 * Long runs of arbitrary calls, all written from fixed seeds: nothing but what the document names is
 * ever thrown, wrong arguments change nothing, a state that is refused ends the frame, and a drawing
 * always fits together.
 */
public final class RoughRunsTest {
    private static final int[] EDGES = {
        Integer.MIN_VALUE, -1001, -101, -100, -10, -1, 0, 1, 2, 12, 29, 30, 39, 40, 126, 200, 201, 400, 401,
        999, 1000, 1001, 31002, Integer.MAX_VALUE,
    };

    private final Random random;
    private final PanelFrames ui = new PanelFrames();
    private int ended;

    private RoughRunsTest(long seed) {
        random = new Random(seed);
    }

    public static void main(String[] args) {
        int ended = 0;
        for (long seed = 0; seed < 300; seed++) {
            RoughRunsTest run = new RoughRunsTest(seed);
            run.calls(512, seed % 3 == 0 ? 20 : 0);
            ended += run.ended;
        }
        Checks.yes("many frames end: " + ended, ended > 3000);
        for (long seed = 1000; seed < 1006; seed++) {
            new RoughRunsTest(seed).calls(20000, 2);
        }
        sameCallsSameAnswers();
        aFrameThatNeverEnds();
        Checks.finish("RoughRunsTest");
    }

    private void calls(int count, int wildPercent) {
        for (int k = 0; k < count; k++) {
            boolean wild = random.nextInt(100) < wildPercent;
            boolean wasOn = ui.look(14) == 1;
            int[] before = snapshot();
            int thrown = Checks.thrownBy(wild ? this::wildCall : this::plainCall);
            if (thrown == 3) {
                Checks.same("a call throws what the document doesn't name", thrown, 0);
            } else if (thrown == 1) {
                Checks.yes("wrong arguments change nothing", Arrays.equals(before, snapshot()));
            } else if (thrown == 2) {
                afterRefusedState(wasOn, before);
            }
            if (wasOn && ui.look(14) == 0 && thrown == 0) {
                ended++;
                drawingFits();
            }
        }
    }

    private void afterRefusedState(boolean wasOn, int[] before) {
        if (!wasOn) {
            Checks.yes("outside of a frame nothing changes", Arrays.equals(before, snapshot()));
            return;
        }
        int[] due = {0, 0, 0, 0, -1};
        for (int what = 0; what < due.length; what++) {
            Checks.same("broken: look(" + what + ")", ui.look(what), due[what]);
        }
        Checks.same("broken: popup", ui.look(9), -1);
        Checks.same("broken: open", ui.look(13), 0);
        Checks.same("broken: frame", ui.look(14), 0);
        for (int window = 0; window < 9; window++) {
            Checks.same("broken: told", ui.place(window, 8), 0);
        }
        Checks.same("broken: the drawing stays", ui.drawn(2), before[before.length - 1]);
    }

    private int[] snapshot() {
        int[] all = new int[15 + 81 + 3];
        for (int what = 0; what < 15; what++) {
            all[what] = ui.look(what);
        }
        for (int k = 0; k < 81; k++) {
            all[15 + k] = ui.place(k / 9, k % 9);
        }
        for (int what = 0; what < 3; what++) {
            all[96 + what] = ui.drawn(what);
        }
        return all;
    }

    private void drawingFits() {
        int commands = ui.drawn(0);
        int indices = ui.drawn(1);
        int vertices = ui.drawn(2);
        boolean fits = indices / 6 == vertices / 4 && indices % 6 == 0 && vertices % 4 == 0;
        int at = 0;
        for (int k = 0; k < commands; k++) {
            fits &= ui.command(k, 6) == at && ui.command(k, 7) > 0;
            fits &= clipIsOnTheScreen(k);
            for (int end = at + ui.command(k, 7); at < end; at++) {
                int vertex = ui.command(k, 5) + ui.index(at);
                fits &= vertex == at / 6 * 4 + new int[] {0, 1, 2, 0, 2, 3}[at % 6] && ui.index(at) < 64;
            }
        }
        fits &= at == indices && ui.command(commands, 0) == -1 && ui.index(indices) == -1;
        fits &= ui.vertex(vertices, 0) == -10000;
        Checks.yes("the drawing fits together", fits);
    }

    private boolean clipIsOnTheScreen(int k) {
        return ui.command(k, 0) >= 0 && ui.command(k, 1) >= 0 && ui.command(k, 2) <= 1000
            && ui.command(k, 3) <= 1000 && ui.command(k, 0) < ui.command(k, 2) && ui.command(k, 1) < ui.command(k, 3);
    }

    private int edge() {
        return EDGES[random.nextInt(EDGES.length)];
    }

    private void wildCall() {
        switch (random.nextInt(22)) {
            case 0: ui.point(edge(), edge()); break;
            case 1: ui.wheel(edge()); break;
            case 2: ui.key(edge(), random.nextBoolean()); break;
            case 3: ui.letter(edge()); break;
            case 4: ui.window(edge(), edge(), edge(), edge(), edge()); break;
            case 5: ui.window(random.nextInt(8), edge(), edge(), 100, 100); break;
            case 6: ui.open(edge()); break;
            case 7: ui.popup(edge(), edge(), edge()); break;
            case 8: ui.button(edge(), edge()); break;
            case 9: ui.check(edge()); break;
            case 10: ui.slider(edge(), edge(), edge(), edge()); break;
            case 11: ui.field(edge(), edge()); break;
            case 12: ui.tree(edge(), edge()); break;
            case 13: ui.child(edge(), edge(), edge()); break;
            case 14: ui.scope(edge()); break;
            case 15: ui.look(edge()); break;
            case 16: ui.place(edge(), edge()); break;
            case 17: ui.kept(edge()); break;
            case 18: ui.text(edge(), edge()); break;
            case 19: ui.command(edge(), edge()); break;
            case 20: ui.index(edge()); ui.drawn(edge()); break;
            default: ui.vertex(edge(), edge()); break;
        }
    }

    /** Calls that mostly fit, so that frames get far. */
    private void plainCall() {
        if (ui.look(14) == 0) {
            event();
            if (random.nextInt(3) == 0) {
                ui.begin();
            }
        } else if (ui.look(13) == 0) {
            betweenWindows();
        } else {
            inAWindow();
        }
    }

    private void event() {
        switch (random.nextInt(6)) {
            case 0: ui.point(random.nextInt(200), random.nextInt(150)); break;
            case 1: ui.press(random.nextBoolean()); break;
            case 2: ui.wheel(random.nextInt(19) - 9); break;
            case 3: ui.letter(32 + random.nextInt(95)); break;
            default: ui.key(random.nextInt(6), random.nextBoolean()); break;
        }
    }

    private void betweenWindows() {
        switch (random.nextInt(9)) {
            case 0: ui.open(random.nextInt(3)); break;
            case 1: ui.popup(random.nextInt(3), 40 + random.nextInt(90), 30 + random.nextInt(90)); break;
            case 2: ui.dismiss(); break;
            case 3: event(); break;
            case 4:
            case 5: ui.end(); break;
            default:
                int window = random.nextInt(8);
                if (ui.place(window, 8) == 0 || random.nextInt(20) == 0) {
                    ui.window(window, random.nextInt(150) - 50, random.nextInt(150) - 50,
                        40 + random.nextInt(160), 30 + random.nextInt(120));
                }
                break;
        }
    }

    private void inAWindow() {
        int label = random.nextInt(4);
        int width = 2 + random.nextInt(60);
        switch (random.nextInt(random.nextInt(30) == 0 ? 16 : 14)) {
            case 0: ui.button(label, width); break;
            case 1: ui.check(label); break;
            case 2: ui.slider(label, width, -random.nextInt(20), 1 + random.nextInt(20)); break;
            case 3: ui.field(label, width); break;
            case 4: ui.tree(label, width); break;
            case 5: ui.child(label, width, 1 + random.nextInt(60)); break;
            case 6: ui.scope(random.nextInt(1000)); break;
            case 7: ui.group(); break;
            case 8: ui.near(); break;
            case 9: ui.button(random.nextInt(1000), width); break;
            case 14: ui.open(label); ui.dismiss(); break;
            case 15: ui.end(); break;
            default: ui.close(); break;
        }
    }

    private static void sameCallsSameAnswers() {
        RoughRunsTest one = new RoughRunsTest(42);
        RoughRunsTest other = new RoughRunsTest(42);
        boolean same = true;
        for (int k = 0; k < 512; k++) {
            same &= Checks.thrownBy(one::plainCall) == Checks.thrownBy(other::plainCall);
            same &= Arrays.equals(one.snapshot(), other.snapshot());
        }
        Checks.yes("the same calls have the same answers", same);
    }

    /** Far more calls than are promised: no room is filled, nothing is thrown by the machine. */
    private static void aFrameThatNeverEnds() {
        PanelFrames ui = new PanelFrames();
        ui.begin();
        int thrown = Checks.thrownBy(() -> {
            for (int window = 0; window < 8; window++) {
                ui.window(window, 0, 0, 400, 400);
                for (int k = 0; k < 2000; k++) {
                    if (k % 78 != 0) {
                        ui.near();
                    }
                    ui.button(111 + k % 800, 1);
                }
                ui.close();
            }
            ui.end();
        });
        Checks.same("a long frame", thrown, 0);
        Checks.yes("much is drawn", ui.drawn(2) > 4 * 512 * 13);
        ui.begin();
        Checks.same("and the next", ui.end(), 0);
    }
}
