import java.io.IOException;
import java.lang.reflect.InvocationTargetException;
import java.lang.reflect.Method;
import java.lang.reflect.Modifier;
import java.nio.charset.StandardCharsets;
import java.nio.file.DirectoryStream;
import java.nio.file.Files;
import java.nio.file.Path;
import java.util.regex.Matcher;
import java.util.regex.Pattern;

/** README.md is right: its examples answer what it says, and it names every call and every test. */
final class ReadmeTest {
    private static final Pattern CALL = Pattern.compile("vault\\.(\\w+)\\(([-\\d, ]*)\\); +// ([^:]+): .+");
    private static final Pattern TEXT = Pattern.compile("for \\(char sign : \"([^\"]+)\"\\.toCharArray\\(\\)\\) \\{");
    private static final Check CHECK = new Check("ReadmeTest");

    private static VaultShelves vault;
    private static int examples;

    public static void main(String[] args) throws IOException {
        String page = Files.readString(Path.of("README.md"), StandardCharsets.US_ASCII);
        boolean inExample = false;
        for (String line : page.split("\n")) {
            if (line.startsWith("```")) {
                inExample = line.equals("```java");
            } else if (inExample) {
                follow(line);
            }
        }
        CHECK.equal("examples are found", examples >= 20 ? 1 : 0, 1);
        namesEveryCall(page);
        namesEveryTest(page);
        CHECK.end();
    }

    private static void follow(String line) {
        Matcher call = CALL.matcher(line);
        Matcher text = TEXT.matcher(line);
        if (line.equals("VaultShelves vault = new VaultShelves();")) {
            vault = new VaultShelves();
        } else if (text.matches()) {
            Check.write(vault, text.group(1));
        } else if (call.matches()) {
            examples++;
            CHECK.equal(line, outcome(call.group(1), call.group(2)), call.group(3));
        } else {
            boolean restOfLoop = line.equals("    vault.append(sign);") || line.equals("}");
            CHECK.equal("a line that this test can follow", restOfLoop ? "" : line, "");
        }
    }

    private static String outcome(String name, String list) {
        String[] words = list.isEmpty() ? new String[0] : list.split(", ");
        Object[] values = new Object[words.length];
        Class<?>[] types = new Class<?>[words.length];
        for (int i = 0; i < words.length; i++) {
            values[i] = Integer.valueOf(words[i]);
            types[i] = int.class;
        }
        try {
            return String.valueOf(VaultShelves.class.getMethod(name, types).invoke(vault, values));
        } catch (InvocationTargetException e) {
            return "throws " + e.getCause().getClass().getSimpleName();
        } catch (ReflectiveOperationException e) {
            return "no such method";
        }
    }

    private static void namesEveryCall(String page) {
        for (Method method : VaultShelves.class.getDeclaredMethods()) {
            if (Modifier.isPublic(method.getModifiers())) {
                String named = "`" + method.getName() + "\\((\\w+(, \\w+){" + (method.getParameterCount() - 1) + "})\\)`";
                String bare = "`" + method.getName() + "\\(\\)`";
                Pattern due = Pattern.compile(method.getParameterCount() == 0 ? bare : named);
                CHECK.equal("names " + method.getName(), due.matcher(page).find() ? 1 : 0, 1);
            }
        }
    }

    private static void namesEveryTest(String page) throws IOException {
        try (DirectoryStream<Path> tests = Files.newDirectoryStream(Path.of("src/test/java"), "*Test.java")) {
            for (Path test : tests) {
                String name = test.getFileName().toString().replace(".java", "");
                CHECK.equal("names " + name, page.contains("| `" + name + "` |") ? 1 : 0, 1);
            }
        }
    }
}
