import java.io.IOException;
import java.nio.file.Files;
import java.nio.file.Path;
import java.util.List;
import java.util.regex.Matcher;
import java.util.regex.Pattern;

/** The rules of LANGUAGE.md that the text of the program shows; FaceTest looks at rule 1. */
final class FormTest {
    private static final Check check = new Check("FormTest");

    public static void main(String[] args) throws IOException {
        String source = Files.readString(Path.of("src/main/java/ChoiceBoard.java"));
        String code = source.replaceAll("(?s)/\\*.*?\\*/", "").replaceAll("//[^\n]*", "");
        onlyTheLibraryThatIsListed(code);
        nothingThatIsForbidden(code);
        exceptionsAsWritten(code);
        methodsStayShort(source.split("\n"));
        check.end();
    }

    private static void onlyTheLibraryThatIsListed(String code) {
        Matcher imports = Pattern.compile("import ([^;]*);").matcher(code);
        List<String> fine = List.of("java.util.Arrays", "java.util.NoSuchElementException");
        while (imports.find()) {
            check.same("rule 4: import " + imports.group(1), fine.contains(imports.group(1)), true);
        }
        Matcher calls = Pattern.compile("\\b(Arrays|Math|System|Integer|Long)\\.(\\w+)").matcher(code);
        List<String> listed = List.of("Arrays.fill", "Math.max", "Math.min", "Math.abs", "System.arraycopy");
        while (calls.find()) {
            check.same("rule 4: " + calls.group(), listed.contains(calls.group()), true);
        }
    }

    private static void nothingThatIsForbidden(String code) {
        String[] words = {"package", "finally", "synchronized", "assert", "protected", "static \\{", "->", "::",
            "try", "equals", "hashCode", "toString", "@Override", "double", "float", "String"};
        for (String word : words) {
            boolean letters = Character.isLetter(word.charAt(0)) && Character.isLetter(word.charAt(word.length() - 1));
            Pattern pattern = Pattern.compile(letters ? "\\b" + word + "\\b" : word);
            check.same("no " + word, pattern.matcher(code).find(), false);
        }
    }

    private static void exceptionsAsWritten(String code) {
        Matcher thrown = Pattern.compile("throw [^;]*;").matcher(code);
        Pattern fine = Pattern.compile(
                "throw new (IllegalState|IllegalArgument|Arithmetic|NoSuchElement)Exception\\(\\);");
        while (thrown.find()) {
            check.same("rule 6: " + thrown.group(), fine.matcher(thrown.group()).matches(), true);
        }
    }

    /** A method begins at a line that ends in an opening brace, and ends at the brace of the same depth. */
    private static void methodsStayShort(String[] lines) {
        for (String indent : new String[] {"    ", "        "}) {
            int begun = -1;
            for (int line = 0; line < lines.length; line++) {
                if (lines[line].matches(indent + "[\\w].*\\) .*\\{") || lines[line].matches(indent + "public ChoiceBoard.*")) {
                    begun = line;
                } else if (lines[line].equals(indent + "}") && begun >= 0) {
                    check.same("rule 11: lines from " + (begun + 1), line - begun < 60, true);
                    begun = -1;
                }
            }
        }
    }
}
