import java.lang.reflect.Constructor;
import java.lang.reflect.Field;
import java.lang.reflect.Method;
import java.lang.reflect.Modifier;
import java.nio.file.Files;
import java.nio.file.Path;
import java.util.TreeSet;
import java.util.regex.Matcher;
import java.util.regex.Pattern;

/** The public face, and promise 1: a new object. */
public final class FaceTest {
    private static final String[] METHODS = {
        "work(int,int,int)", "row(int,int,int,int)", "could(int,int,int)", "least(int,int,int,int)",
        "parts(int,int,int)", "probe(int,int,int,int,int)", "learner()", "answer(int,int,int,int)",
        "answers(int,int,int,int,int)", "aside(int,int,boolean)", "set(int,int)", "points(int,int)",
        "guess(int)", "lead(int)", "count(int,int)", "strange(int)", "hint(int,int,int,int)",
        "type(long,int)", "skills()", "skill(int,int)", "exercise(int,int,int,boolean)",
        "odds(int,int,int)", "again(int,int,int)", "way(int,int,int,int)", "deal(int,int)", "ends()",
        "by(int)", "share()", "verdict()", "sheet(int,int,int)", "drop(int)", "item(int,int,int,int)",
        "copy(int,int,int,int,int)"
    };
    private static final String[] CONSTANTS = {
        "BAD=-1", "NOT=-2", "FULL=-3", "NONE=-4", "OPEN=-5", "NULL=-11", "CAST=-12", "INDEX=-13", "SIZE=-14"
    };

    public static void main(String[] args) throws Exception {
        methods();
        constants();
        asWritten();
        newObject();
        twoObjects();
        Check.end();
    }

    private static void methods() {
        TreeSet<String> want = new TreeSet<>(java.util.List.of(METHODS));
        TreeSet<String> names = new TreeSet<>();
        for (String method : METHODS) {
            names.add(method.substring(0, method.indexOf('(')));
        }
        TreeSet<String> got = new TreeSet<>();
        for (Method m : LessonDesk.class.getDeclaredMethods()) {
            if (!Modifier.isPrivate(m.getModifiers())) {
                got.add(signature(m));
                Check.due(m.getName() + " answers int", m.getReturnType() == int.class);
                Check.due(m.getName() + " is of an object", !Modifier.isStatic(m.getModifiers()));
            } else {
                Check.due("private " + m.getName() + " bears no public name", !names.contains(m.getName()));
            }
        }
        Check.due("methods " + got + " are " + want, got.equals(want));
        Constructor<?>[] all = LessonDesk.class.getDeclaredConstructors();
        Check.due("constructors", all.length, 1);
        Check.due("it takes nothing", all[0].getParameterCount(), 0);
        Check.due("it is public", Modifier.isPublic(all[0].getModifiers()));
        Check.due("the class is final", Modifier.isFinal(LessonDesk.class.getModifiers()));
        for (Class<?> inside : LessonDesk.class.getDeclaredClasses()) {
            for (Method m : inside.getDeclaredMethods()) {
                Check.due(inside + "." + m.getName() + " bears no public name", !names.contains(m.getName()));
            }
        }
    }

    private static String signature(Method m) {
        StringBuilder text = new StringBuilder(m.getName()).append('(');
        for (Class<?> type : m.getParameterTypes()) {
            text.append(text.charAt(text.length() - 1) == '(' ? "" : ",").append(type.getName());
        }
        return text.append(')').toString();
    }

    private static void constants() throws Exception {
        TreeSet<String> got = new TreeSet<>();
        for (Field f : LessonDesk.class.getDeclaredFields()) {
            if (!Modifier.isPrivate(f.getModifiers())) {
                Check.due(f.getName() + " is a constant", Modifier.isStatic(f.getModifiers()) && Modifier.isFinal(f.getModifiers()));
                got.add(f.getName() + "=" + f.getInt(null));
            }
        }
        TreeSet<String> want = new TreeSet<>(java.util.List.of(CONSTANTS));
        Check.due("constants " + got + " are " + want, got.equals(want));
    }

    /** The face as the document writes it, with its names, its order and the words ahead of its parts. */
    private static void asWritten() throws Exception {
        Path root = Path.of(System.getProperty("root", "."));
        String document = Files.readString(root.resolve("../shared/DOC.md"));
        String source = Files.readString(root.resolve("src/main/java/LessonDesk.java"));
        Matcher heads = Pattern.compile("(?m)^ *(public [^=;]*\\));$").matcher(document);
        int found = 0;
        int last = -1;
        while (heads.find()) {
            int at = source.indexOf("    " + heads.group(1) + " {\n");
            Check.due(heads.group(1) + " stands behind the one ahead of it", at > last);
            last = at;
            found++;
        }
        Check.due("the constructor and all methods", found, 1 + METHODS.length);
        Matcher parts = Pattern.compile("Ahead of the calls (.*) the interface says: (---- .*)\\.").matcher(document);
        int calls = 0;
        while (parts.find()) {
            for (String name : parts.group(1).replace("`", "").split(", ")) {
                int at = source.indexOf("    public int " + name + "(");
                int words = source.lastIndexOf("    // ----", Math.max(at, 0));
                Check.due(parts.group(2) + " is ahead of " + name, words >= 0 && source.startsWith("    // " + parts.group(2) + "\n", words));
                calls++;
            }
        }
        Check.due("calls with words ahead", calls, METHODS.length);
    }

    private static void newObject() {
        LessonDesk desk = new LessonDesk();
        for (int skill = 0; skill < 8; skill++) {
            Check.due("no skill", desk.skill(skill, 0), LessonDesk.BAD);
        }
        Check.due("no learner to guess", desk.guess(0), LessonDesk.BAD);
        Check.due("no learner to count", desk.count(0, 0), LessonDesk.BAD);
        Check.due("no strange answer", desk.strange(0), LessonDesk.NONE);
        Check.due("no trial", desk.share(), LessonDesk.NOT);
        Check.due("no outcomes", desk.ends(), 0);
        for (int sheet = 0; sheet < 4; sheet++) {
            Check.due("nothing on a sheet", desk.drop(sheet), LessonDesk.NULL);
        }
        int[] first = {10, 20, 5, 10, 50};
        for (int what = 0; what < 5; what++) {
            Check.due("first value " + what, desk.set(what, 1), first[what]);
        }
        Check.due("no hint ahead", desk.hint(0, 0, 0, 0), LessonDesk.OPEN);
        Check.due("an empty tape", desk.skills(), -20);
        Check.due("the first learner", desk.learner(), 0);
    }

    private static void twoObjects() {
        LessonDesk one = new LessonDesk();
        LessonDesk other = new LessonDesk();
        one.learner();
        one.sheet(0, 0, 3);
        one.deal(0, 1);
        Check.skills(one, "a=1/1");
        Check.due("another's learners", other.lead(0), LessonDesk.BAD);
        Check.due("another's sheets", other.drop(0), LessonDesk.NULL);
        Check.due("another's trial", other.ends(), 0);
        Check.due("another's skills", other.skill(0, 0), LessonDesk.BAD);
    }
}
