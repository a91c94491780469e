import java.lang.reflect.Constructor;
import java.lang.reflect.Field;
import java.lang.reflect.Method;
import java.lang.reflect.Modifier;
import java.util.TreeSet;

/** The public face: exactly the document's constants, constructor and methods, all else private. */
final class FaceTest {
    private static final String CONSTANTS =
        "HALT=0 PUSH=1 DUP=2 DROP=3 SWAP=4 OVER=5 ROT=6 NIP=7 TUCK=8 ADDI=9 ADD=10 SUB=11 MUL=12 XOR=13 LESS=14 "
        + "IN=15 OUT=16 JUMP=17 JZ=18 CALL=19 RET=20 EDITING=0 READY=1 HALTED=2 UNDERFLOW=3 OVERFLOW=4 "
        + "RETURNS_EMPTY=5 RETURNS_FULL=6 WAIT_IN=7 WAIT_OUT=8 REFUSED=-1 EMPTY=-2 BAD_END=-3 BAD_TARGET=-4 "
        + "STACK=0 RETURNS=1 INPUT=2 OUTPUT=3 OPS=4 ARGS=5";
    private static final String METHODS =
        "emit(int,int)int patch(int,int)int erase()int compile()int edit()int clear()void feed(int)int take()int "
        + "run(int)int status()int pc()int count(int)int view(int,int)int";

    public static void main(String[] args) throws IllegalAccessException {
        int flags = StackCacher.class.getModifiers();
        Checks.dueText("the class", Modifier.toString(flags), "public final");
        Checks.dueText("its nested classes", "" + StackCacher.class.getDeclaredClasses().length, "0");
        Checks.dueText("public constants", fields(), sorted(CONSTANTS));
        Checks.dueText("public methods", methods(), sorted(METHODS));
        Checks.dueText("constructors", constructors(), "public(int,int,int,int)");
        Checks.finish();
    }

    private static String sorted(String words) {
        return new TreeSet<>(java.util.List.of(words.split(" "))).toString();
    }

    private static String fields() throws IllegalAccessException {
        TreeSet<String> found = new TreeSet<>();
        for (Field field : StackCacher.class.getDeclaredFields()) {
            if (!Modifier.isPrivate(field.getModifiers())) {
                boolean plain = Modifier.toString(field.getModifiers()).equals("public static final");
                found.add(field.getName() + "=" + (plain ? "" + field.getInt(null) : "not constant"));
            }
        }
        return found.toString();
    }

    private static String methods() {
        TreeSet<String> found = new TreeSet<>();
        for (Method method : StackCacher.class.getDeclaredMethods()) {
            if (!Modifier.isPrivate(method.getModifiers())) {
                String flags = Modifier.toString(method.getModifiers());
                found.add((flags.equals("public") ? "" : flags + " ") + method.getName()
                    + parameters(method.getParameterTypes()) + method.getReturnType());
            }
        }
        return found.toString();
    }

    private static String constructors() {
        StringBuilder found = new StringBuilder();
        for (Constructor<?> constructor : StackCacher.class.getDeclaredConstructors()) {
            found.append(Modifier.toString(constructor.getModifiers()));
            found.append(parameters(constructor.getParameterTypes()));
        }
        return found.toString();
    }

    private static String parameters(Class<?>[] types) {
        StringBuilder text = new StringBuilder("(");
        for (Class<?> type : types) {
            text.append(text.length() == 1 ? "" : ",").append(type);
        }
        return text.append(")").toString();
    }
}
