import java.io.IOException;
import java.nio.file.Files;
import java.nio.file.Path;
import java.util.ArrayList;
import java.util.List;
import java.util.regex.Matcher;
import java.util.regex.Pattern;

/** Rules of LANGUAGE.md that neither a call nor a class file tells, looked at in the text of the file. */
public final class LanguageTest {
    private static final Path MAIN = Path.of("src/main/java/ReplayMachine.java");
    private static final Pattern HEAD = Pattern.compile(
        " +(?:(?:public|private|static|final) )*(?:(?:void|int|boolean|[A-Z]\\w*) )?(\\w+)\\(([^()]*)\\)(?: throws [\\w, ]+)? \\{");
    private static final Pattern DIVISION = Pattern.compile("[/%]=? *(\\(|[\\w.]+)");
    private static final Pattern CALL = Pattern.compile("(?<!new )(?<![\\w.])([\\w.]+)\\(");
    private static final Pattern HANDED = Pattern.compile("new \\w+\\(([^()]*)\\)");

    /** A method or constructor: its name, its parameters and its lines. */
    private record Body(String name, String parameters, List<String> lines) {
    }

    public static void main(String[] args) throws IOException {
        String text = Files.readString(MAIN).replaceAll("(?s)/\\*.*?\\*/", "").replaceAll("//[^\n]*", "");
        List<Body> bodies = bodies(text);
        forbiddenWords(text);
        divisors(text);
        lengths(bodies);
        constructors(bodies);
        Check.end("LanguageTest");
    }

    /** A body ends at the line that closes it with its head's own indent. */
    private static List<Body> bodies(String text) {
        List<Body> bodies = new ArrayList<>();
        String[] lines = text.split("\n");
        for (int i = 0; i < lines.length; i++) {
            Matcher head = HEAD.matcher(lines[i]);
            if (head.matches()) {
                String close = " ".repeat(lines[i].length() - lines[i].stripLeading().length()) + "}";
                List<String> within = new ArrayList<>();
                for (i++; !lines[i].equals(close); i++) {
                    within.add(lines[i]);
                }
                bodies.add(new Body(head.group(1), head.group(2), within));
            }
        }
        return bodies;
    }

    private static void forbiddenWords(String text) {
        Check.sentence("Rules 2, 4, 5, 6 and 13: what is not in the part of Java that the rules leave");
        for (String word : new String[] {"package", "finally", "synchronized", "assert", "\\w+Exact", "getMessage",
            "hashCode", "static \\{", "import static", "nanoTime", "currentTimeMillis", "Random", "Thread",
            "import (?!java\\.util\\.(ArrayList|List|Arrays|Iterator|NoSuchElementException);)[\\w.*]+"}) {
            Check.same(word, Pattern.compile("(?<!\\w)" + word + "(?!\\w)").matcher(text).find(), false);
        }
        for (String sign : new String[] {"->", "::", "\" +", "+ \""}) {
            Check.same(sign, text.contains(sign), false);
        }
    }

    private static void divisors(String text) {
        Check.sentence("Rule 7: a divisor before it divides");
        int found = 0;
        for (String line : text.split("\n")) {
            Matcher division = DIVISION.matcher(line);
            while (division.find()) {
                String divisor = division.group(1);
                boolean constant = divisor.matches("[A-Z_]+|[1-9]\\d*");
                String before = line.substring(0, division.start());
                boolean lookedAt = Pattern.compile("\\b" + Pattern.quote(divisor) + " (==|<|>) [01]\\b").matcher(before).find();
                Check.same(line.strip() + " looks at " + divisor, constant || lookedAt, true);
                found++;
            }
        }
        Check.same("there are divisions", found > 0, true);
    }

    private static void lengths(List<Body> bodies) {
        Check.sentence("Rule 11: A method takes at most seven parameters. Methods stay short (some sixty lines)");
        for (Body body : bodies) {
            Check.same(body.name() + " is short", body.lines().size() <= 60, true);
            Check.same(body.name() + " has few parameters", body.parameters().split(",").length <= 7, true);
        }
        Check.same("all methods are seen", bodies.size() > 50, true);
    }

    private static void constructors(List<Body> bodies) {
        Check.sentence("Rule 12: A constructor calls no method that another class could override and hands out nothing"
            + " of the object that it makes. Rule 6: no throw in a constructor.");
        int found = 0;
        for (Body body : bodies) {
            if (Character.isUpperCase(body.name().charAt(0))) {
                found++;
                for (String line : body.lines()) {
                    constructorLine(body, line);
                }
            }
        }
        Check.same("all constructors are seen", found, 6);
    }

    private static void constructorLine(Body body, String line) {
        Matcher call = CALL.matcher(line.replaceAll("\\b(for|if|while|switch) \\(", ""));
        Check.same(body.name() + " calls no method: " + line.strip(), call.find(), false);
        Check.same(body.name() + " throws nothing", line.contains("throw "), false);
        Check.same(body.name() + " does not hand itself out", line.contains("this"), false);
        Matcher handed = HANDED.matcher(line);
        while (handed.find()) {
            boolean constant = handed.group(1).matches("\\d*|[A-Z_]+");
            boolean parameter = ("int " + handed.group(1)).equals(body.parameters());
            Check.same(body.name() + " hands on a constant or its parameter: " + line.strip(), constant || parameter, true);
        }
    }
}
