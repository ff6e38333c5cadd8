import java.io.IOException;
import java.lang.reflect.Constructor;
import java.lang.reflect.Field;
import java.lang.reflect.Method;
import java.lang.reflect.Modifier;
import java.nio.file.Files;
import java.nio.file.Path;
import java.util.ArrayList;
import java.util.Arrays;
import java.util.List;
import java.util.TreeSet;
import java.util.regex.Matcher;
import java.util.regex.Pattern;

/** The document's face, and of ../shared/LANGUAGE.md what can be seen from outside; run in the project's folder. */
public final class FormTest {
    private static final String FACE = "feed5 end1 book0 rule0 force1 buyer2 sky2 day0 sell1 calm2 watch2 change2 undo0 "
            + "ahead3 buys1 empty0 tells2 guard2 best2 least2 soothe2 page2 fines2 rests4 ring1 peak2 note3 ruled1 look1 "
            + "seed1 summers4 count1 image1 back1";
    private static final String[] FORBIDDEN = {"throw", "throws", "try", "catch", "finally", "synchronized", "assert",
        "volatile", "native", "protected", "package", "hashCode", "currentTimeMillis", "nanoTime", "Random"};

    private final Checks c = new Checks();

    private void face() {
        Class<?> book = PoisonBook.class;
        c.holds("public and final", Modifier.isPublic(book.getModifiers()) && Modifier.isFinal(book.getModifiers()));
        TreeSet<String> names = new TreeSet<>();
        TreeSet<String> hidden = new TreeSet<>();
        for (Method m : book.getDeclaredMethods()) {
            if (Modifier.isPrivate(m.getModifiers())) {
                hidden.add(m.getName());
                continue;
            }
            c.holds(m + " is public", Modifier.isPublic(m.getModifiers()) && !Modifier.isStatic(m.getModifiers()));
            c.holds(m + " answers int", m.getReturnType() == int.class);
            c.holds(m + " takes ints", Arrays.stream(m.getParameterTypes()).allMatch(t -> t == int.class));
            names.add(m.getName() + m.getParameterCount());
        }
        c.holds("the methods " + names, names.equals(new TreeSet<>(List.of(FACE.split(" ")))));
        for (String name : hidden) {
            c.holds("no private " + name, !(" " + FACE).matches(".* " + name + "[0-9].*"));
        }
        Constructor<?>[] made = book.getDeclaredConstructors();
        c.holds("one constructor", made.length == 1 && made[0].getParameterCount() == 0
                && Modifier.isPublic(made[0].getModifiers()));
        for (Field f : book.getDeclaredFields()) {
            c.holds("field " + f, f.getName().equals("NONE") == !Modifier.isPrivate(f.getModifiers()));
        }
    }

    private void classes() {
        List<Class<?>> all = new ArrayList<>(List.of(PoisonBook.class.getDeclaredClasses()));
        for (Class<?> one : all) {
            c.holds(one + " is static", Modifier.isStatic(one.getModifiers()));
            c.holds(one + " is not public", !Modifier.isPublic(one.getModifiers()));
        }
        all.add(PoisonBook.class);
        c.holds("twelve classes", all.size() <= 12);
        for (Class<?> one : all) {
            int fields = 0;
            for (Field f : one.getDeclaredFields()) {
                boolean isStatic = Modifier.isStatic(f.getModifiers());
                c.holds(f + " is final, if static", !isStatic || Modifier.isFinal(f.getModifiers()));
                fields += isStatic ? 0 : 1;
            }
            c.holds(one + " has twenty fields", fields <= 20);
            for (Method m : one.getDeclaredMethods()) {
                c.holds(m + " takes seven", m.getParameterCount() <= 7);
            }
        }
    }

    private void source() throws IOException {
        String text = Files.readString(Path.of("src/main/java/PoisonBook.java"));
        c.holds("plain signs", text.chars().allMatch(one -> one == '\n' || one >= 32 && one < 127));
        String code = text.replaceAll("(?s)/\\*.*?\\*/", "").replaceAll("//.*", "");
        String bare = code.replaceAll("\"[^\"]*\"", "\"\"").replaceAll("'[^']*'", "''");
        for (String word : FORBIDDEN) {
            c.holds("no " + word, !Pattern.compile("\\b" + word + "\\b").matcher(bare).find());
        }
        c.holds("no lambda", !bare.contains("->") && !bare.contains("::"));
        c.holds("no joined texts", !bare.contains("\"\" +") && !bare.contains("+ \"\""));
        c.holds("no endless loop", !bare.contains("while (true)") && !bare.contains("for (;;)"));
        Matcher imports = Pattern.compile("import ([^;]*);").matcher(bare);
        while (imports.find()) {
            c.holds(imports.group(), imports.group(1).matches("java\\.util\\.(Arrays|ArrayList|List)"));
        }
        methodLengths(bare.split("\n"));
    }

    /** A method begins with a line that ends in ") {" in a class's own depth, and ends with its brace. */
    private void methodLengths(String[] lines) {
        for (int i = 0; i < lines.length; i++) {
            Matcher head = Pattern.compile("^( {4}| {8})[a-zA-Z].*\\) \\{$").matcher(lines[i]);
            if (!head.find() || lines[i].matches(" *(if|for|while|switch) .*")) {
                continue;
            }
            int end = i;
            while (end < lines.length && !lines[end].equals(head.group(1) + "}")) {
                end++;
            }
            c.holds(lines[i] + " is short", end - i <= 60);
        }
    }

    public static void main(String[] args) throws IOException {
        FormTest t = new FormTest();
        t.face();
        t.classes();
        t.source();
        t.c.close("FormTest");
    }
}
