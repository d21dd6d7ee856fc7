import java.lang.reflect.Constructor;
import java.lang.reflect.Field;
import java.lang.reflect.Member;
import java.lang.reflect.Method;
import java.lang.reflect.Modifier;
import java.util.Set;
import java.util.TreeSet;

/** "The public face": the class has all of it, with what each call throws, and nothing else to be seen. */
public final class FaceTest {

    private static final Set<String> FACE = Set.of(
        "public static final int SnapCluster.NONE",
        "public SnapCluster(int,int,int,int)",
        "public boolean SnapCluster.beginAt(int,int,boolean)",
        "public int SnapCluster.readKey(int,int)"
            + " throws java.lang.IllegalArgumentException,java.lang.IllegalStateException",
        "public boolean SnapCluster.writeKey(int,int,int)",
        "public int SnapCluster.commitIt(int)",
        "public boolean SnapCluster.giveUp(int)",
        "public int SnapCluster.retryAt(int,int)",
        "public int SnapCluster.tickOf(int)",
        "public int SnapCluster.deliverAt(int)",
        "public boolean SnapCluster.loseAt(int)",
        "public boolean SnapCluster.doubleAt(int)",
        "public boolean SnapCluster.spoilAt(int,int,int)",
        "public boolean SnapCluster.turnTo(int,boolean)",
        "public boolean SnapCluster.crashAfter(int,int)",
        "public int SnapCluster.replicaOf(int,int)",
        "public int SnapCluster.journalOf(int,int)",
        "public long SnapCluster.blockOf(int,int,int)",
        "public long SnapCluster.frameOf(int,int)",
        "public int SnapCluster.valueAt(int,int,int) throws java.lang.IndexOutOfBoundsException",
        "public int SnapCluster.slotOf(int,int,int)",
        "public int SnapCluster.knownOf(int,int,boolean)",
        "public int SnapCluster.sessionOf(int,int)",
        "public int SnapCluster.messageOf(int,int)",
        "public int SnapCluster.lookAt(int)");

    private static final int MOST_CLASSES = 12;
    private static final int MOST_FIELDS = 20;
    private static final int MOST_PARAMETERS = 7;

    private final Probe p = new Probe();
    private final Set<String> seen = new TreeSet<>();

    public static void main(String[] args) {
        FaceTest test = new FaceTest();
        test.faceIsAllThatIsSeen();
        test.noPrivateMethodHasAPublicName();
        test.classesInsideAreHiddenAndStatic();
        test.staticFieldsAreConstants();
        test.classesAreSmall();
        test.p.end("FaceTest");
    }

    private void faceIsAllThatIsSeen() {
        p.due("the class is public and final", SnapCluster.class.getModifiers(), Modifier.PUBLIC | Modifier.FINAL);
        p.due("the class extends Object alone", SnapCluster.class.getSuperclass() == Object.class, true);
        p.due("interfaces of the class", SnapCluster.class.getInterfaces().length, 0);
        for (Field one : SnapCluster.class.getDeclaredFields()) {
            see(one, one.toString());
        }
        for (Constructor<?> one : SnapCluster.class.getDeclaredConstructors()) {
            see(one, one.toString());
        }
        for (Method one : SnapCluster.class.getDeclaredMethods()) {
            see(one, one.toString());
        }
        for (String wanted : FACE) {
            p.due("there is " + wanted, seen.contains(wanted), true);
        }
        for (String got : seen) {
            p.due("the document has " + got, FACE.contains(got), true);
        }
    }

    private void see(Member member, String text) {
        if (!Modifier.isPrivate(member.getModifiers())) {
            seen.add(text);
        }
    }

    private void noPrivateMethodHasAPublicName() {
        Set<String> names = new TreeSet<>();
        for (Method one : SnapCluster.class.getMethods()) {
            names.add(one.getName());
        }
        for (Method one : SnapCluster.class.getDeclaredMethods()) {
            if (Modifier.isPrivate(one.getModifiers())) {
                p.due("a public method is named like the private " + one, names.contains(one.getName()), false);
            }
        }
    }

    private void classesInsideAreHiddenAndStatic() {
        Class<?>[] inside = SnapCluster.class.getDeclaredClasses();
        p.due("there are at most twelve classes", 1 + inside.length <= MOST_CLASSES, true);
        for (Class<?> one : inside) {
            int is = one.getModifiers();
            p.due(one + " is static", Modifier.isStatic(is), true);
            p.due(one + " can be seen", Modifier.isPublic(is) || Modifier.isProtected(is), false);
        }
    }

    private void staticFieldsAreConstants() {
        checkStatics(SnapCluster.class);
        for (Class<?> one : SnapCluster.class.getDeclaredClasses()) {
            checkStatics(one);
        }
    }

    private void checkStatics(Class<?> owner) {
        Set<Class<?>> allowed = Set.of(int.class, long.class, boolean.class, char.class, String.class,
            int[].class, long[].class, char[].class, byte[].class);
        for (Field one : owner.getDeclaredFields()) {
            if (Modifier.isStatic(one.getModifiers())) {
                p.due(one + " is final", Modifier.isFinal(one.getModifiers()), true);
                p.due(one + " has a type of a constant", allowed.contains(one.getType()), true);
            }
        }
    }

    private void classesAreSmall() {
        checkSize(SnapCluster.class);
        for (Class<?> one : SnapCluster.class.getDeclaredClasses()) {
            checkSize(one);
        }
    }

    private void checkSize(Class<?> owner) {
        int fields = 0;
        for (Field one : owner.getDeclaredFields()) {
            fields += Modifier.isStatic(one.getModifiers()) ? 0 : 1;
        }
        p.due(owner + " has at most twenty fields", fields <= MOST_FIELDS, true);
        for (Method one : owner.getDeclaredMethods()) {
            p.due(one + " takes at most seven parameters", one.getParameterCount() <= MOST_PARAMETERS, true);
        }
        for (Constructor<?> one : owner.getDeclaredConstructors()) {
            p.due(one + " takes at most seven parameters", one.getParameterCount() <= MOST_PARAMETERS, true);
        }
    }
}
