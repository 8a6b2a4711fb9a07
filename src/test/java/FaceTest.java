import java.io.IOException;
import java.lang.reflect.Constructor;
import java.lang.reflect.Field;
import java.lang.reflect.Method;
import java.lang.reflect.Modifier;
import java.nio.file.Files;
import java.nio.file.Path;
import java.util.ArrayList;
import java.util.Arrays;
import java.util.List;
import java.util.TreeSet;

/** The class's face: its constants, its constructor and its methods, and no others. */
public final class FaceTest {
    private static final String[] FACE = {
        "int area(int) IndexOutOfBoundsException IllegalStateException",
        "int item(int) IndexOutOfBoundsException IllegalStateException",
        "boolean agree(int,int,boolean) IndexOutOfBoundsException",
        "int put(int,int,int,int,int) IndexOutOfBoundsException IllegalArgumentException IllegalStateException",
        "int wipe()",
        "int send(int) IndexOutOfBoundsException IllegalStateException",
        "int refusal(int) IndexOutOfBoundsException",
        "int secret(int,int,int,boolean) IndexOutOfBoundsException",
        "int pass(int) IllegalArgumentException IllegalStateException",
        "int figure(int,int,int,int) IndexOutOfBoundsException IllegalArgumentException",
        "int value(int,int,int,int) IndexOutOfBoundsException IllegalArgumentException",
        "int first(int,int,int) IndexOutOfBoundsException",
        "int revisions(int,int,int) IndexOutOfBoundsException",
        "boolean hasFault(int,int,int) IndexOutOfBoundsException",
        "int shown(int,int,int) IndexOutOfBoundsException",
        "int hidden(int) IndexOutOfBoundsException",
        "int find(int,int,int,int,int,int) IndexOutOfBoundsException IllegalArgumentException",
        "boolean mayTell(int,int) IndexOutOfBoundsException",
    };

    public static void main(String[] args) throws IllegalAccessException, IOException {
        standsAsTheDocumentTellsIt();
        hasMethods();
        hasConstants();
        hasConstructor();
        keepsRoom();
        Check.end("FaceTest");
    }

    /** Word by word, with the names of the parameters and the exceptions in their order. */
    private static void standsAsTheDocumentTellsIt() throws IOException {
        String document = Files.readString(Path.of("../shared/DOC.md"));
        String source = Files.readString(Path.of("src/main/java/Figurehouse.java")).replaceAll("\\s+", " ");
        String face = document.replaceFirst("(?s).*?```java\n(.*?)```.*", "$1");
        int members = 0;
        for (String line : face.split("\n")) {
            if (line.endsWith(";")) {
                String ending = line.contains("(") ? " {" : ";";
                String member = line.trim().replace(";", ending);
                Check.is("stands in the class: " + member, source.contains(" " + member), true);
                members++;
            }
        }
        Check.is("members of the face", members, FACE.length + 4);
        Check.is("open members of the class, and itself", source.split("\\bpublic ").length - 1, members + 1);
    }

    private static String told(Method method) {
        List<String> parameters = new ArrayList<>();
        for (Class<?> parameter : method.getParameterTypes()) {
            parameters.add(parameter.getName());
        }
        StringBuilder text = new StringBuilder();
        text.append(method.getReturnType().getName()).append(' ').append(method.getName());
        text.append('(').append(String.join(",", parameters)).append(')');
        for (Class<?> exception : method.getExceptionTypes()) {
            text.append(' ').append(exception.getSimpleName());
        }
        return text.toString();
    }

    private static void hasMethods() {
        TreeSet<String> open = new TreeSet<>();
        TreeSet<String> openNames = new TreeSet<>();
        TreeSet<String> closedNames = new TreeSet<>();
        for (Method method : Figurehouse.class.getDeclaredMethods()) {
            boolean isPublic = Modifier.isPublic(method.getModifiers());
            if (isPublic) {
                open.add(told(method));
            }
            (isPublic ? openNames : closedNames).add(method.getName());
            Check.is("public or private: " + method, isPublic || Modifier.isPrivate(method.getModifiers()), true);
        }
        Check.is("the methods", open.toString(), new TreeSet<>(Arrays.asList(FACE)).toString());
        closedNames.retainAll(openNames);
        Check.is("private methods that bear a public one's name", closedNames.toString(), "[]");
    }

    private static void hasConstants() throws IllegalAccessException {
        TreeSet<String> open = new TreeSet<>();
        for (Field field : Figurehouse.class.getDeclaredFields()) {
            int modifiers = field.getModifiers();
            if (Modifier.isPublic(modifiers)) {
                boolean isConstant = Modifier.isStatic(modifiers) && Modifier.isFinal(modifiers);
                open.add(field.getName() + (isConstant ? "=" + field.getInt(null) : " is no constant"));
            } else {
                Check.is("private: " + field, Modifier.isPrivate(modifiers), true);
            }
        }
        Check.is("the constants", open.toString(),
                "[ADD=0, DELETE=2, HIDDEN=-2000000002, MISSING=-2000000001, NONE=-1, REPLACE=1]");
    }

    private static void hasConstructor() {
        Constructor<?>[] all = Figurehouse.class.getDeclaredConstructors();
        Check.is("one constructor", all.length, 1);
        Check.is("it is public", Modifier.isPublic(all[0].getModifiers()), true);
        Check.is("it takes nothing and tells no exception",
                all[0].getParameterCount() + all[0].getExceptionTypes().length, 0);
        Check.is("the class is public and final", Figurehouse.class.getModifiers(), Modifier.PUBLIC | Modifier.FINAL);
        for (Class<?> inside : Figurehouse.class.getDeclaredClasses()) {
            int modifiers = inside.getModifiers();
            Check.is("static and not open: " + inside, Modifier.isStatic(modifiers)
                    && !Modifier.isPublic(modifiers) && !Modifier.isProtected(modifiers), true);
        }
    }

    /** All rows are made in the constructor: a run of dear calls makes nothing more. */
    private static void keepsRoom() {
        Figurehouse house = Houses.stars(13, 9);
        Houses.add(house, 1, 1, 0, 1);
        com.sun.management.ThreadMXBean counter =
                (com.sun.management.ThreadMXBean) java.lang.management.ManagementFactory.getThreadMXBean();
        runDearCalls(house);
        long before = counter.getCurrentThreadAllocatedBytes();
        runDearCalls(house);
        long made = counter.getCurrentThreadAllocatedBytes() - before;
        Check.is("bytes made by calls, " + made + ", are few", made < 20000, true);
    }

    private static void runDearCalls(Figurehouse house) {
        for (int times = 0; times < 100; times++) {
            house.secret(1, 1, 0, true);
            house.shown(0, 0, 0);
            house.hidden(1);
            house.value(0, 0, 0, 0);
            house.hasFault(1, 1, 0);
            house.find(Figurehouse.NONE, Figurehouse.NONE, 0, 11, 0, 5);
        }
    }
}
