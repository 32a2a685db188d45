import java.io.IOException;
import java.nio.file.Path;

/** The rules of ../shared/LANGUAGE.md, as far as the source of the class shows whether they are kept. */
public final class LanguageTest {
    private LanguageTest() {
    }

    public static void main(String[] args) throws IOException {
        Due due = new Due("LanguageTest");
        RuleScanner.scan(Path.of("src/main/java/Menuline.java"), due);
        due.close();
    }
}
