import java.lang.reflect.Constructor;
import java.lang.reflect.InvocationTargetException;
import java.lang.reflect.Method;
import java.lang.reflect.Modifier;
import java.util.Arrays;
import java.util.Comparator;
import java.util.Random;
import java.util.TreeSet;

/** The public face is the document's and no other, and no call throws, whatever its arguments. */
public final class FaceTest {
    private static final String FACE = "int status(); int feed(int,int,int,int,int); int load(int); int fault(int); "
            + "int many(int); int ring(int,int); int phase(int,int); int marked(int,int); int brake(int,int); int sum(int); "
            + "int event(int,int); int mark(int,int,int); int clock(int,int); boolean call(int,boolean); int come(int,int); "
            + "boolean ask(int); boolean let(int); boolean brakes(int,int,int,int,int,int); boolean stick(int,boolean); "
            + "boolean reset(); int tick(int); int run(int,int); int keep(); int back(); int foes(int,int); int sets(int); "
            + "int when(int); int worst(int); int cleared(); int instep(); int broken(int); int paper(int,int); "
            + "int bestMax(int,int); int cheapest(int)";

    private FaceTest() {
    }

    public static void main(String[] args) throws ReflectiveOperationException {
        face();
        for (int run = 0; run < 700; run++) {
            wild(new Random(run));
        }
        Check.end();
    }

    private static String told(Method method) {
        StringBuilder told = new StringBuilder(method.getReturnType() + " " + method.getName() + "(");
        for (Class<?> type : method.getParameterTypes()) {
            told.append(told.charAt(told.length() - 1) == '(' ? "" : ",").append(type);
        }
        return told.append(")").toString();
    }

    private static void face() throws ReflectiveOperationException {
        TreeSet<String> due = new TreeSet<>(Arrays.asList(FACE.split("; ")));
        TreeSet<String> got = new TreeSet<>();
        for (Method method : RingedLights.class.getDeclaredMethods()) {
            if (!Modifier.isPrivate(method.getModifiers())) {
                got.add(told(method) + (Modifier.isStatic(method.getModifiers()) ? " static" : ""));
            }
        }
        Check.due("the methods " + got + ", due are " + due, got.equals(due), true);
        Constructor<?>[] constructors = RingedLights.class.getDeclaredConstructors();
        Check.due("constructors", constructors.length, 1);
        Check.due("its parameters", constructors[0].getParameterCount(), 0);
        Check.due("it is public", Modifier.isPublic(constructors[0].getModifiers()), true);
        long fields = Arrays.stream(RingedLights.class.getDeclaredFields())
                .filter(field -> !Modifier.isPrivate(field.getModifiers())).count();
        Check.due("fields that are not private", fields, 1);
        Check.due("NONE", RingedLights.class.getField("NONE").getInt(null), -1);
        int modifiers = RingedLights.class.getModifiers();
        Check.due("public and final", Modifier.isPublic(modifiers) && Modifier.isFinal(modifiers), true);
    }

    private static Object argument(Class<?> type, Random random) {
        if (type == boolean.class) {
            return random.nextBoolean();
        }
        switch (random.nextInt(6)) {
            case 0: return random.nextInt();
            case 1: return random.nextBoolean() ? Integer.MIN_VALUE : Integer.MAX_VALUE;
            case 2: return random.nextInt(700) - 10;
            default: return random.nextInt(14) - 3;
        }
    }

    private static void wild(Random random) throws ReflectiveOperationException {
        RingedLights x = new RingedLights();
        if (random.nextInt(5) > 0) {
            Check.loadInto(x, "phase 0 0 rate 9;phase 0 1 walk 3 halt 3;phase 1 0 recall 3;phase 1 1;cycle 33;"
                    + "break 0 track 1 2 dwell 5 2 cut 1;");
        }
        Method[] methods = RingedLights.class.getMethods();
        Arrays.sort(methods, Comparator.comparing(Method::getName));
        for (int i = 0; i < 120; i++) {
            Method method = methods[random.nextInt(methods.length)];
            if (method.getDeclaringClass() == RingedLights.class) {
                wildCall(x, method, random);
            }
        }
    }

    private static void wildCall(RingedLights x, Method method, Random random) throws ReflectiveOperationException {
        Class<?>[] types = method.getParameterTypes();
        Object[] arguments = new Object[types.length];
        for (int i = 0; i < types.length; i++) {
            arguments[i] = argument(types[i], random);
        }
        String told = method.getName() + Arrays.toString(arguments);
        try {
            Object answer = method.invoke(x, arguments);
            boolean hasStatus = !Arrays.asList("status", "feed", "fault").contains(method.getName());
            if (hasStatus && x.status() != 0) {
                Check.due(told + " refused", answer.equals(-1) || answer.equals(false), true);
            }
        } catch (InvocationTargetException thrown) {
            Check.due(told + " threw " + thrown.getCause(), true, false);
        }
        Check.due("status() behind " + told, x.status() >= 0 && x.status() <= 9, true);
    }
}
