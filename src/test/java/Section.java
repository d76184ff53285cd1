import java.io.IOException;
import java.nio.file.Files;
import java.nio.file.Path;
import java.util.regex.Matcher;
import java.util.regex.Pattern;

/**
 * A section of the document whose every sentence has a test of its own: a test hangs at the words that it
 * holds up, these have to stand in the section, and when it ends no word of it may be left without a test.
 */
final class Section {
    private static final Path DOCUMENT = Path.of("../shared/DOC.md");

    private final Due due;
    private final String heading;
    private final String text;
    private final boolean[] isHeldUp;

    Section(Due due, String heading) {
        this.due = due;
        this.heading = heading;
        text = textBelow(heading);
        isHeldUp = new boolean[text.length()];
        due.by(heading + ": ");
        due.holds("the section is there", !text.isEmpty());
    }

    private static String textBelow(String heading) {
        try {
            String document = "\n" + Files.readString(DOCUMENT) + "\n## ";
            int start = document.indexOf("\n## " + heading + "\n");
            if (start < 0) {
                return "";
            }
            int body = start + heading.length() + 5;
            return document.substring(body, document.indexOf("\n## ", body));
        } catch (IOException e) {
            throw new IllegalStateException("no document at " + DOCUMENT, e);
        }
    }

    void says(String words, Runnable test) {
        tick(words);
        due.by(heading + ": \"" + words + "\": ");
        int before = due.compared();
        test.run();
        due.holds("it has a test", due.compared() > before);
    }

    /** Words that promise nothing that could be broken. */
    void onlyNames(String words) {
        tick(words);
    }

    private void tick(String words) {
        int at = text.indexOf(words);
        due.by(heading + ": \"" + words + "\": ");
        due.holds("the words stand in the document", at >= 0);
        for (int i = at; at >= 0 && i < at + words.length(); i++) {
            isHeldUp[i] = true;
        }
    }

    /** What stands between backquotes names parts of the face, which FaceTest looks at. */
    void end() {
        Matcher names = Pattern.compile("```[^\n]*|`[^`\n]*`|\n### [^\n]*").matcher(text);
        while (names.find()) {
            for (int i = names.start(); i < names.end(); i++) {
                isHeldUp[i] = true;
            }
        }
        StringBuilder left = new StringBuilder();
        for (int i = 0; i < text.length(); i++) {
            if (!isHeldUp[i] && Character.isLetterOrDigit(text.charAt(i))) {
                left.append(text.charAt(i));
            }
        }
        due.by(heading + ": ");
        due.holds("words without a test: " + left, left.length() == 0);
    }
}
