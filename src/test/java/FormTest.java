import java.lang.reflect.Constructor;
import java.lang.reflect.Field;
import java.lang.reflect.Method;
import java.lang.reflect.Modifier;
import java.util.Arrays;
import java.util.List;
import java.util.TreeSet;

/** The document's face, as it is seen from outside. */
public final class FormTest {
    private static final String FACE = "feed5 end1 book0 rule0 force1 buyer2 sky2 day0 sell1 calm2 watch2 change2 undo0 "
            + "ahead3 buys1 empty0 tells2 guard2 best2 least2 soothe2 page2 fines2 rests4 ring1 peak2 note3 ruled1 look1 "
            + "seed1 summers4 count1 image1 back1";

    private final Checks c = new Checks();

    private void face() {
        Class<?> book = PoisonBook.class;
        c.holds("public and final", Modifier.isPublic(book.getModifiers()) && Modifier.isFinal(book.getModifiers()));
        TreeSet<String> names = new TreeSet<>();
        TreeSet<String> hidden = new TreeSet<>();
        for (Method m : book.getDeclaredMethods()) {
            if (Modifier.isPrivate(m.getModifiers())) {
                hidden.add(m.getName());
                continue;
            }
            c.holds(m + " is public", Modifier.isPublic(m.getModifiers()) && !Modifier.isStatic(m.getModifiers()));
            c.holds(m + " answers int", m.getReturnType() == int.class);
            c.holds(m + " takes ints", Arrays.stream(m.getParameterTypes()).allMatch(t -> t == int.class));
            names.add(m.getName() + m.getParameterCount());
        }
        c.holds("the methods " + names, names.equals(new TreeSet<>(List.of(FACE.split(" ")))));
        for (String name : hidden) {
            c.holds("no private " + name, !(" " + FACE).matches(".* " + name + "[0-9].*"));
        }
        Constructor<?>[] made = book.getDeclaredConstructors();
        c.holds("one constructor", made.length == 1 && made[0].getParameterCount() == 0
                && Modifier.isPublic(made[0].getModifiers()));
        for (Field f : book.getDeclaredFields()) {
            c.holds("field " + f, f.getName().equals("NONE") == !Modifier.isPrivate(f.getModifiers()));
        }
    }

    public static void main(String[] args) {
        FormTest t = new FormTest();
        t.face();
        t.c.close("FormTest");
    }
}
