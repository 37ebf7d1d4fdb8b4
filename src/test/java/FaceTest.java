import java.lang.reflect.Constructor;
import java.lang.reflect.Field;
import java.lang.reflect.Method;
import java.lang.reflect.Modifier;
import java.nio.file.Files;
import java.nio.file.Path;
import java.util.ArrayList;
import java.util.List;
import java.util.TreeSet;

/** The public face as the document writes it, line by line and in its order; the class's path is the first argument. */
public final class FaceTest {
    private static final String FACE = """
        public final class MixDesk;
        public static final int NONE = -1;
        public MixDesk();
        public boolean song(int s, int kind, int bars, int step, int more);
        public boolean about(int s, int key, int heat, int phrase);
        public boolean bar(int s, int bar, int beats);
        public boolean loop(int s, int a, int b, int n);
        public boolean drop(int s);
        public int of(int s, int what);
        public int beat(int s, int k);
        public int played(int s, int p, int what);
        public int length(int s);
        // ---- strokes
        public int stroke(int tick);
        public int clear();
        public int find(int gap, int miss, int skip);
        public int found(int k);
        // ---- joins
        public boolean costs(int bound, int key, int heat);
        public int join(int a, int b, int n, int p, int q, boolean phrases);
        public int meets(int j, int what);
        public int best(int a, int b, int n, int what);
        // ---- nights
        public boolean must(int a, int b, int how);
        public int night(int n);
        public int order(int i);
        public int mend(int slip, int step);
        """;

    private static int faults = 0;

    public static void main(String[] args) throws Exception {
        List<String> due = FACE.lines().toList();
        linesOfTheSource(Path.of(args.length > 0 ? args[0] : "src/main/java/MixDesk.java"), due);
        membersOfTheClass(due);
        System.out.println(due.size() + " lines of the face, " + faults + " faults");
        if (faults != 0) {
            System.exit(1);
        }
    }

    private static void ask(boolean holds, String fault) {
        if (!holds) {
            faults++;
            System.out.println("the public face: " + fault);
        }
    }

    private static void linesOfTheSource(Path path, List<String> due) throws Exception {
        List<String> got = new ArrayList<>();
        for (String line : Files.readAllLines(path)) {
            String face = line.strip();
            if (face.startsWith("public ") || face.startsWith("// ----")) {
                got.add(face.endsWith(" {") ? face.substring(0, face.length() - 2) + ";" : face);
            }
        }
        ask(got.size() == due.size(), got.size() + " lines, due are " + due.size());
        for (int i = 0; i < Math.min(got.size(), due.size()); i++) {
            ask(got.get(i).equals(due.get(i)), got.get(i) + " stands where is due: " + due.get(i));
        }
    }

    /** What other classes can call: the same members, and no more, however the source writes them. */
    private static void membersOfTheClass(List<String> due) {
        TreeSet<String> want = new TreeSet<>();
        for (String line : due) {
            if (line.startsWith("public boolean ") || line.startsWith("public int ") || line.contains("MixDesk()")) {
                want.add(line.replaceAll(" [a-z]+(?=[,)])", "").replace(";", ""));
            }
        }
        TreeSet<String> got = new TreeSet<>();
        for (Method method : MixDesk.class.getDeclaredMethods()) {
            if (!Modifier.isPrivate(method.getModifiers()) && !method.isSynthetic()) {
                String types = typesOf(method.getParameterTypes());
                got.add(Modifier.toString(method.getModifiers()) + " " + method.getReturnType() + " " + method.getName() + types);
            }
        }
        for (Constructor<?> maker : MixDesk.class.getDeclaredConstructors()) {
            got.add(Modifier.toString(maker.getModifiers()) + " MixDesk" + typesOf(maker.getParameterTypes()));
        }
        ask(got.equals(want), "members are " + got + ", due are " + want);
        for (Field field : MixDesk.class.getDeclaredFields()) {
            boolean isPrivate = Modifier.isPrivate(field.getModifiers());
            ask(isPrivate || field.getName().equals("NONE"), field + " is not private");
        }
        for (Class<?> inner : MixDesk.class.getDeclaredClasses()) {
            ask(!Modifier.isPublic(inner.getModifiers()) && Modifier.isStatic(inner.getModifiers()), inner.getName());
        }
        ask(MixDesk.class.getSuperclass() == Object.class && MixDesk.class.getInterfaces().length == 0, "it stands alone");
        ask(Modifier.toString(MixDesk.class.getModifiers()).equals("public final"), "public final class");
        ask(MixDesk.NONE == -1, "NONE is " + MixDesk.NONE);
    }

    private static String typesOf(Class<?>[] types) {
        StringBuilder row = new StringBuilder("(");
        for (Class<?> type : types) {
            row.append(row.length() > 1 ? ", " : "").append(type.getName());
        }
        return row.append(")").toString();
    }
}
