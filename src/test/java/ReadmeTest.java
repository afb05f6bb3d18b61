import java.io.IOException;
import java.nio.file.Files;
import java.nio.file.Path;
import java.util.ArrayList;
import java.util.List;

/** The code in README.md: it stands here line by line, and answers what README.md says. */
public final class ReadmeTest {
    private static final Path README = Path.of("README.md");
    private static final Path THIS = Path.of("src/test/java/ReadmeTest.java");

    public static void main(String[] args) throws IOException {
        PanelFrames ui = clicking();
        answers(ui);
        drawing(ui);
        if (Files.isReadable(README) && Files.isReadable(THIS)) {
            codeStandsHere();
        } else {
            System.out.println("ReadmeTest: README.md isn't in this directory, its code isn't compared");
        }
        Checks.finish("ReadmeTest");
    }

    static boolean tellFrame(PanelFrames ui) {
        ui.begin();
        ui.window(0, 10, 10, 120, 100);
        boolean clicked = ui.button(7, 40);
        ui.near();
        ui.check(3);
        ui.slider(5, 50, 0, 10);
        ui.close();
        ui.end();
        return clicked;
    }

    private static PanelFrames clicking() {
        PanelFrames ui = new PanelFrames();
        tellFrame(ui);
        ui.point(20, 30);
        ui.press(true);
        tellFrame(ui);
        Checks.same("the button is active", ui.look(0), 31008);
        ui.press(false);
        boolean clicked = tellFrame(ui);
        Checks.yes("clicked", clicked);
        return ui;
    }

    private static void answers(PanelFrames ui) {
        int buttonId = 31 * 1000 + 1 + 7;
        int sliderId = 31 * 1000 + 1 + 5;
        boolean hasFocus = ui.look(2) == buttonId;
        int hoveredWindow = ui.look(4);
        int left = ui.place(0, 0);
        int number = ui.kept(sliderId);
        int letter = ui.text(sliderId, 0);
        Checks.yes("the button has the focus", hasFocus);
        Checks.same("the hovered window", hoveredWindow, 0);
        Checks.same("left", left, 10);
        Checks.same("the slider's number", number, 0);
        Checks.same("no letter", letter, PanelFrames.NONE);
    }

    private static void drawing(PanelFrames ui) {
        StringBuilder textures = new StringBuilder();
        StringBuilder corners = new StringBuilder();
        for (int k = 0; k < ui.drawn(0); k++) {
            int clipLeft = ui.command(k, 0);
            int texture = ui.command(k, 4);
            int offset = ui.command(k, 5);
            int first = ui.command(k, 6);
            int count = ui.command(k, 7);
            for (int i = first; i < first + count; i++) {
                int vertex = offset + ui.index(i);
                int x = ui.vertex(vertex, 0);
                int y = ui.vertex(vertex, 1);
                int colour = ui.vertex(vertex, 2);
                if (i % 6 == 0) {
                    corners.append(x).append(',').append(y).append(',').append(colour).append(' ');
                }
            }
            Checks.same("the clip's left", clipLeft, 10);
            textures.append(texture).append(' ');
        }
        Checks.yes("textures " + textures, textures.toString().equals("0 0 8 0 6 "));
        Checks.yes("corners " + corners, corners.toString().equals(
            "10,10,1 10,10,2 14,26,4 16,28,6 58,26,3 14,42,3 16,44,6 "));
    }

    /** Lines of code between the marks of README.md, without what is said behind them. */
    private static List<String> codeOf(List<String> readme) {
        List<String> code = new ArrayList<>();
        boolean inside = false;
        for (String line : readme) {
            if (line.startsWith("```")) {
                inside = line.equals("```java");
            } else if (inside && !line.isBlank()) {
                code.add(withoutComment(line));
            }
        }
        return code;
    }

    private static String withoutComment(String line) {
        int comment = line.indexOf(" // ");
        return (comment < 0 ? line : line.substring(0, comment)).strip();
    }

    private static void codeStandsHere() throws IOException {
        List<String> here = new ArrayList<>();
        for (String line : Files.readAllLines(THIS)) {
            here.add(line.strip());
        }
        List<String> code = codeOf(Files.readAllLines(README));
        Checks.yes("README.md has code", code.size() > 0);
        int next = 0;
        for (String line : code) {
            int at = here.subList(next, here.size()).indexOf(line);
            Checks.yes("README.md's line stands here, in its order: " + line, at >= 0);
            next += at + 1;
        }
    }
}
