import java.io.IOException;
import java.nio.file.Files;
import java.nio.file.Path;
import java.util.List;
import java.util.regex.Matcher;
import java.util.regex.Pattern;

/** The rules of LANGUAGE.md that a look at the source's lines can tell. */
public final class LanguageRulesTest {
    private static final String[] FORBIDDEN = {"throw", "throws", "try", "catch", "finally", "synchronized", "assert",
        "volatile", "native", "static \\{", "->", "::", "Object", "HashMap", "var", "@\\w+"};
    private static final Pattern METHOD =
        Pattern.compile("^ +(public |private )?(static )?[\\w\\[\\]]+ (\\w+)\\(([^)]*)\\) \\{$");

    public static void main(String[] args) throws IOException {
        List<String> lines = Files.readAllLines(Path.of("src/main/java/TaleReader.java"));
        List<String> face = List.of("feed", "end", "read", "tell", "forget", "pin", "loose", "look", "mention", "person",
            "chain", "name", "who");
        int opened = 0;
        int faceMethods = 0;
        for (int i = 0; i < lines.size(); i++) {
            String line = lines.get(i);
            String code = line.trim().startsWith("/**") || line.trim().startsWith("*") ? "" : line.replaceAll("//.*", "");
            for (String word : FORBIDDEN) {
                String whole = Character.isLetter(word.charAt(0)) ? "\\b" + word + "\\b" : word;
                Tales.due("line " + (i + 1) + " has " + word, Pattern.compile(whole).matcher(code).find(), false);
            }
            if (code.startsWith("import ")) {
                Tales.due("line " + (i + 1) + ": " + code, code.equals("import java.util.Arrays;"), true);
            }
            Matcher method = METHOD.matcher(code);
            if (method.find()) {
                opened = i;
                boolean isPublic = "public ".equals(method.group(1));
                faceMethods += isPublic ? 1 : 0;
                Tales.due("line " + (i + 1) + " bears a public name", face.contains(method.group(3)), isPublic);
                Tales.due("line " + (i + 1) + " has too many parameters", method.group(4).split(",").length > 7, false);
            }
            if (code.matches("^( {4}| {8})\\}$")) {
                Tales.due("the method at line " + (opened + 1) + " is too long", opened > 0 && i - opened > 60
                    && code.startsWith("        }"), false);
            }
        }
        Tales.due("methods of the face", faceMethods, face.size());
        Tales.finish();
    }
}
