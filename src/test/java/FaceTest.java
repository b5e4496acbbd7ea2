import java.lang.reflect.Field;
import java.lang.reflect.Member;
import java.lang.reflect.Method;
import java.lang.reflect.Modifier;
import java.util.Arrays;
import java.util.HashSet;
import java.util.Set;
import java.util.TreeSet;

/** The public face, head by head, and that there is no other: rules 1, 5, 11 of LANGUAGE.md. */
public final class FaceTest {
    private static final String[] HEADS = {
        "boolean track(int,int)", "boolean sector(int,int,int)", "int tyres(int,int,int)", "int set(int,int)",
        "int rain(int,int,int)", "int flag(int,int,int,int)", "int car(int,int,int,int,int,int)", "int tyre(int,int,int)",
        "int order(int,int,int,int)", "int stop(int,int,int,int)", "int drop(int,int)", "int plan(int)",
        "boolean unplan(int)", "int count(int)", "int of(int,int) throws java.util.NoSuchElementException",
        "int at(int,int,int)", "int led(int,int)", "int waited(int)", "int leads()", "int sign(int)", "boolean end(int)",
        "int rule(int)", "int finding(int,int,int,int)", "int seconds(int,int)", "int place(int,int)",
        "int sum(int,int) throws java.util.NoSuchElementException", "int within(int,int)", "int result(int)",
        "int move(int,int,int,int)", "int best(int,int,int)", "int gain(int,int,int)", "int option(int,int,int)",
        "int clear()", "int settle(int,int,int)", "boolean lost(int,boolean)", "int known(int,int,int,int)",
        "int ahead(int,int,int,int)", "int wall(int,int)", "int why(int,int)",
        "int row(int) throws java.util.NoSuchElementException"};

    public static void main(String[] args) {
        Class<?> face = RaceByLaps.class;
        Due.is("the class is public and final", face.getModifiers() & (Modifier.PUBLIC | Modifier.FINAL), Modifier.PUBLIC | Modifier.FINAL);
        Due.is("NONE", RaceByLaps.NONE, -1);
        Due.is("constructors", face.getDeclaredConstructors().length, 1);
        Due.is("public constructors", face.getConstructors().length, 1);
        Set<String> heads = new TreeSet<>();
        for (Method m : face.getDeclaredMethods()) if (!Modifier.isPrivate(m.getModifiers())) heads.add(head(m));
        Set<String> due = new TreeSet<>(Arrays.asList(HEADS));
        for (String h : due) if (!heads.contains(h)) Due.fail("not in the face: " + h);
        for (String h : heads) if (!due.contains(h)) Due.fail("not in the document: " + h);
        for (Field f : face.getDeclaredFields()) {
            if (!f.getName().equals("NONE") && !Modifier.isPrivate(f.getModifiers())) Due.fail("a visible field: " + f.getName());
        }
        within(face);
        Due.is("at most twelve classes", face.getDeclaredClasses().length <= 11, true);
        for (Class<?> c : face.getDeclaredClasses()) {
            Due.is(c + " is static", Modifier.isStatic(c.getModifiers()), true);
            within(c);
        }
        Due.close();
    }

    private static String head(Method m) {
        String words = m.toGenericString().replace("public ", "").replace("RaceByLaps.", "");
        return words.replace(", ", ",");
    }

    private static void within(Class<?> c) {
        Set<String> names = new HashSet<>();
        for (String h : HEADS) names.add(h.substring(h.indexOf(' ') + 1, h.indexOf('(')));
        int fields = 0;
        for (Field f : c.getDeclaredFields()) {
            boolean constant = Modifier.isStatic(f.getModifiers());
            if (constant && !Modifier.isFinal(f.getModifiers())) Due.fail("a static field that is not final: " + f);
            if (!constant) fields++;
        }
        Due.is(c + " has at most twenty fields", fields <= 20, true);
        for (Method m : c.getDeclaredMethods()) {
            if (m.getParameterCount() > 7) Due.fail("more than seven parameters: " + m);
            boolean ofFace = c == RaceByLaps.class && Modifier.isPublic(((Member) m).getModifiers());
            if (!ofFace && names.contains(m.getName())) Due.fail("bears the name of a public one: " + m);
        }
    }
}
