import java.io.IOException;
import java.lang.reflect.Constructor;
import java.lang.reflect.Field;
import java.lang.reflect.Method;
import java.lang.reflect.Modifier;
import java.nio.file.Files;
import java.nio.file.Path;
import java.util.ArrayList;
import java.util.Arrays;
import java.util.HashSet;
import java.util.List;
import java.util.Set;

/** The document's face, and some rules of LANGUAGE.md that can be seen from outside. */
final class FaceTest {
    private static final String FACE = "int feed(int,int,int,int,int); int well(int)A; int fault(int);"
            + "int person(int,int)NA; int worth(int,int)N; int likes(int,int)NA; int at(int)N;"
            + "boolean allowed(int,int)NS; int today(); int liking(int)NS; int ask(int,int)NS; int days(int)A;"
            + "int leave(int)NS; int join(int)NS; int move(int,int)NSA; int trade(int)A; int trades();"
            + "int auction(int,int)NSA; int ring(); int undo(int)A; int judge(int,int)NSA; int perform(int)NS;"
            + "int season(int,int)AS; int best(int)A; int orders(int); int standBest()S; int kindest(int,boolean)NS;"
            + "int settles(int)A; int plot(int,int,int)NSA; int promise(int,int)A; int guard(int,int)NSA;"
            + "int price(int,int)NSA; int bestPlace(int)NS; int worthOf(int)SA; int share(int)NS; int ruined(int)NS;"
            + "int firstRuined(); int by(int)A; int bestWay(); long secrets(int)NSA; int sure(int,int)NSA;"
            + "void tray(int,int,int)NA; long write(int,int,long)NSI; int pour(int)NS; void image(int)N;"
            + "void restore(int)NS; int count(int)";

    private FaceTest() {
    }

    public static void main(String[] args) throws IOException {
        face();
        privateMembers();
        words();
        Check.end();
    }

    private static String told(Method method) {
        List<String> types = new ArrayList<>();
        for (Class<?> type : method.getParameterTypes()) {
            types.add(type.getName());
        }
        StringBuilder thrown = new StringBuilder();
        for (Class<?> type : method.getExceptionTypes()) {
            String name = type.getSimpleName();
            thrown.append(name.equals("IllegalStateException") ? "S" : name.equals("IndexOutOfBoundsException") ? "I"
                    : name.equals("NoSuchElementException") ? "N" : "A");
        }
        return method.getReturnType().getName() + " " + method.getName() + "(" + String.join(",", types) + ")" + thrown;
    }

    private static void face() {
        Set<String> due = new HashSet<>();
        for (String method : FACE.split(";")) {
            due.add(method.trim());
        }
        Set<String> got = new HashSet<>();
        for (Method method : WellQueue.class.getDeclaredMethods()) {
            if (Modifier.isPublic(method.getModifiers())) {
                got.add(told(method));
            }
        }
        Check.due("the face: " + due + " " + got, 1, () -> due.equals(got) ? 1 : 0);
        Check.due("its methods", 47, due::size);
        int sort = WellQueue.class.getModifiers();
        Check.due("public and final", 1, () -> Modifier.isPublic(sort) && Modifier.isFinal(sort) ? 1 : 0);
        Constructor<?>[] makers = WellQueue.class.getDeclaredConstructors();
        Check.due("one constructor", 1, () -> makers.length);
        Check.due("NONE", -1, () -> WellQueue.NONE);
    }

    private static void privateMembers() {
        Set<String> open = new HashSet<>();
        for (Method method : WellQueue.class.getDeclaredMethods()) {
            if (Modifier.isPublic(method.getModifiers())) {
                open.add(method.getName());
            }
        }
        for (Method method : WellQueue.class.getDeclaredMethods()) {
            boolean hidden = Modifier.isPrivate(method.getModifiers()) && !open.contains(method.getName());
            Check.due("private, with a name of its own: " + method, 1,
                () -> hidden || Modifier.isPublic(method.getModifiers()) ? 1 : 0);
            Check.due("seven parameters at most: " + method, 1, () -> method.getParameterCount() <= 7 ? 1 : 0);
        }
        for (Field field : WellQueue.class.getDeclaredFields()) {
            boolean none = field.getName().equals("NONE");
            Check.due("private: " + field, 1, () -> none || Modifier.isPrivate(field.getModifiers()) ? 1 : 0);
        }
        for (Class<?> inner : WellQueue.class.getDeclaredClasses()) {
            int sort = inner.getModifiers();
            Check.due("static: " + inner, 1, () -> Modifier.isStatic(sort) && !Modifier.isPublic(sort) ? 1 : 0);
            for (Method method : inner.getDeclaredMethods()) {
                Check.due("a name of its own: " + method, 0, () -> open.contains(method.getName()) ? 1 : 0);
            }
        }
    }

    private static void words() throws IOException {
        String text = Files.readString(Path.of("src/main/java/WellQueue.java"));
        for (String word : Arrays.asList("->", "::", "try", "catch", "finally", "synchronized", "assert", "package ",
                "Exact", "java.io", "java.nio", "System.out", "nanoTime", "currentTimeMillis", "Random", "Thread")) {
            Check.due("no " + word, -1, () -> text.indexOf(word));
        }
        int imports = 0;
        for (String line : text.split("\n")) {
            if (line.startsWith("import ")) {
                imports++;
                boolean known = line.equals("import java.util.Arrays;")
                        || line.equals("import java.util.NoSuchElementException;");
                Check.due(line, 1, () -> known ? 1 : 0);
            }
        }
        int many = imports;
        Check.due("imports", 2, () -> many);
    }
}
