import java.io.IOException;
import java.lang.reflect.InvocationTargetException;
import java.lang.reflect.Method;
import java.nio.file.Files;
import java.nio.file.Path;
import java.util.regex.Matcher;
import java.util.regex.Pattern;

/** The calls in README.md's examples answer what stands behind them. It is run where README.md is. */
public final class ReadmeTest {
    private static final Pattern MAKING = Pattern.compile("PredicateProver prover = new PredicateProver\\((\\d+)\\);");
    private static final Pattern TYPING = Pattern.compile("for \\(char c : \"([^\"]*)\"\\.toCharArray\\(\\)\\) prover\\.type\\(c\\);");
    private static final Pattern CALLING = Pattern.compile("prover\\.(\\w+)\\(([\\d, ]*)\\);\\s*// (-?\\w+)(:.*)?");

    private final Check check = new Check();
    private PredicateProver prover = null;
    private int calls = 0;

    private void read(String line) {
        Matcher making = MAKING.matcher(line);
        Matcher typing = TYPING.matcher(line);
        Matcher calling = CALLING.matcher(line);
        if (making.matches()) {
            prover = new PredicateProver(Integer.parseInt(making.group(1)));
        } else if (prover != null && typing.matches()) {
            Bench.typed(prover, typing.group(1));
        } else if (prover != null && calling.matches()) {
            calls++;
            dueCall(line, calling);
        } else {
            wrong("a line that this test can't read: " + line);
        }
    }

    private void dueCall(String line, Matcher calling) {
        String got = call(calling.group(1), calling.group(2));
        if (!got.equals(calling.group(3))) {
            wrong(line + " -- answered " + got);
        }
    }

    private String call(String name, String arguments) {
        String[] texts = arguments.isEmpty() ? new String[0] : arguments.split(", ");
        Class<?>[] types = new Class<?>[texts.length];
        Object[] values = new Object[texts.length];
        for (int i = 0; i < texts.length; i++) {
            types[i] = int.class;
            values[i] = Integer.valueOf(texts[i]);
        }
        try {
            Method method = PredicateProver.class.getMethod(name, types);
            return String.valueOf(method.invoke(prover, values));
        } catch (InvocationTargetException e) {
            return "throws." + e.getCause().getClass().getSimpleName();
        } catch (ReflectiveOperationException e) {
            return "no such call";
        }
    }

    private void wrong(String what) {
        System.out.println(what);
        check.due("README.md's examples as the program answers", 0, 1);
    }

    public static void main(String[] args) throws IOException {
        ReadmeTest test = new ReadmeTest();
        boolean inExample = false;
        for (String line : Files.readAllLines(Path.of("README.md"))) {
            if (line.startsWith("```")) {
                inExample = line.equals("```java");
                test.prover = null;
            } else if (inExample) {
                test.read(line);
            }
        }
        if (test.calls == 0) {
            test.wrong("no example");
        }
        test.check.end("ReadmeTest");
    }
}
