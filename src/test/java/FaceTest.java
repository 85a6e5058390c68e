import java.lang.reflect.Constructor;
import java.lang.reflect.Field;
import java.lang.reflect.Method;
import java.lang.reflect.Modifier;
import java.util.Arrays;
import java.util.Set;
import java.util.TreeSet;

/** The class has the document's face, with its exceptions and constants, and no other open member. */
public final class FaceTest {
    private static final String METHODS = """
        int feed(int,int,int,int,int)
        int load(int)
        int errorPosition()
        int count(int)
        int named(boolean,int)
        int undoCount()
        int getSetting(int)
        boolean isThere(int)
        int volumeNumber(int,int) !
        int snapshotNumber(int,int) !
        int snapshotAt(int,int) !
        int clonesOf(int) !
        int before(int) !
        int behind(int) !
        int depthOf(int) !
        int common(int,int) !
        int blockAt(int,int) !
        int birthIn(int,boolean) !
        int sameAt(int,int) !
        int besideOrigin(int) !
        int wouldFree(int,int) !
        int sizeOf(int)
        int holders(int)
        int used()
        int referenced(int) !
        int exclusive(int) !
        int shared(int,int) !
        int unlike(int,int) !
        int writtenSince(int,int) !
        int deadCount(int) !
        int deadBlock(int,int) !
        int byDeadBlocks(int) !
        int freedBy(int)
        int freedByVolume(int) !
        int usedBySnapshots(int) !
        int whyKept(int) !
        int fewestToFree(int)
        int mostExclusive()
        int wouldMove(int) !
        int wouldWrite(int,int,int)
        double sharing()
        int newVolume()
        int write(int,int,int)
        int trim(int,int)
        int take(int)
        int clone(int)
        int promote(int)
        int destroy(int)
        int destroySet(int)
        int destroyVolume(int)
        int rollBack(int)
        int hold(int,boolean)
        int setQuota(int,int)
        int setSetting(int,int)
        int undo()
        int writeOut(int) !
        int outputAt(int)
        """;
    private static final String CONSTANTS = """
        LIVE=16 POOL=0 CLONES=1 NOT_FOUND=-1 BAD_VALUE=-2 FULL=-3 NOT_ALLOWED=-4 OVER=-5 SYNTAX_ERROR=-11 RANGE_ERROR=-12
        NAME_ERROR=-13 DUPLICATE_ERROR=-14 COUNT_ERROR=-15 FULL_ERROR=-16""";

    private static int wrong = 0;

    public static void main(String[] args) throws IllegalAccessException {
        Class<?> face = SnapshotVolumes.class;
        same("class", "public final", Modifier.toString(face.getModifiers()));
        same("constructors", Set.of("public SnapshotVolumes()"), constructors(face));
        same("methods", new TreeSet<>(Arrays.asList(METHODS.split("\n"))), methods(face));
        same("constants", new TreeSet<>(Arrays.asList(CONSTANTS.trim().split("\\s+"))), constants(face));
        privateNames(face);
        System.out.println("face: " + wrong + " things not as due");
        if (wrong != 0) {
            System.exit(1);
        }
    }

    private static void same(String what, Object want, Object got) {
        if (!want.equals(got)) {
            wrong++;
            System.out.println(what + " are " + got + ", due are " + want);
        }
    }

    private static Set<String> constructors(Class<?> face) {
        Set<String> set = new TreeSet<>();
        for (Constructor<?> constructor : face.getDeclaredConstructors()) {
            set.add(constructor.toGenericString());
        }
        return set;
    }

    private static Set<String> methods(Class<?> face) {
        Set<String> set = new TreeSet<>();
        for (Method method : face.getDeclaredMethods()) {
            if (Modifier.isPrivate(method.getModifiers()) || method.isSynthetic()) {
                continue;
            }
            String text = method.getReturnType() + " " + method.getName()
                + Arrays.toString(method.getParameterTypes()).replace(" ", "").replace('[', '(').replace(']', ')');
            Class<?>[] thrown = method.getExceptionTypes();
            set.add(thrown.length == 1 && thrown[0] == IndexOutOfBoundsException.class ? text + " !" : text);
        }
        return set;
    }

    private static Set<String> constants(Class<?> face) throws IllegalAccessException {
        Set<String> set = new TreeSet<>();
        for (Field field : face.getDeclaredFields()) {
            int modifiers = field.getModifiers();
            if (Modifier.isPublic(modifiers) && Modifier.isStatic(modifiers) && Modifier.isFinal(modifiers)) {
                set.add(field.getName() + "=" + field.getInt(null));
            } else if (!Modifier.isPrivate(modifiers)) {
                set.add(field.toString());
            }
        }
        return set;
    }

    // LANGUAGE.md, rule 1: no private method bears the name of a public one.
    private static void privateNames(Class<?> face) {
        Set<String> names = new TreeSet<>();
        for (Method method : face.getDeclaredMethods()) {
            if (Modifier.isPublic(method.getModifiers())) {
                names.add(method.getName());
            }
        }
        for (Method method : face.getDeclaredMethods()) {
            if (!Modifier.isPublic(method.getModifiers())) {
                same("private " + method.getName(), false, names.contains(method.getName()));
            }
        }
        for (Class<?> inner : face.getDeclaredClasses()) {
            same("private static class " + inner, true, Modifier.isStatic(inner.getModifiers()));
            for (Method method : inner.getDeclaredMethods()) {
                same(inner + "." + method.getName(), false, names.contains(method.getName()));
            }
        }
    }
}
