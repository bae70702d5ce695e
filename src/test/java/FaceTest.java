import java.lang.reflect.Constructor;
import java.lang.reflect.Field;
import java.lang.reflect.Method;
import java.lang.reflect.Modifier;
import java.util.Set;
import java.util.TreeSet;

/** The class has the document's face and nothing else that can be seen. */
public final class FaceTest {
    private static final String[] FACE = {
        "int feed(int,int,int,int,int)", "boolean end(int)", "int fault(int)", "int text(int)", "int rule(int)",
        "int zone(int,int)", "int block(int,int,int)", "int get(int)", "int key(int,int)", "int next(int)",
        "int range(int,int,int)", "int stream(int)", "int put(int,int)", "int delete(int)", "int clean()",
        "int crash()", "int open(int)", "int close(int)", "int finish(int)", "int reset(int)", "int policy(int)",
        "int years(int,long)", "int status(int)", "int undo()", "int log(int,int)", "int step(int,int,int)",
        "int run(int,int)", "int perform(int)", "int torn(int,int)", "int order(int,int)", "int score(int,int)",
        "int cost(int)", "int growth(int,int,long,int)", "int best(int,long)", "int strain(int,int,int,long,int)",
        "int fresh(int,int,long,int)", "int bestStreams(int,long)", "int past(int,int)", "int elder(int)",
        "int gone()", "int far(int)", "int shares(int,int)", "int most(int)", "int image()", "int back()",
        "int count(int)",
    };

    public static void main(String[] args) {
        Checks checks = new Checks();
        int modifiers = ZoneLedger.class.getModifiers();
        checks.holds("public and final", Modifier.isPublic(modifiers) && Modifier.isFinal(modifiers));
        Set<String> due = new TreeSet<>(Set.of(FACE));
        Set<String> seen = new TreeSet<>();
        Set<String> hidden = new TreeSet<>();
        for (Method method : ZoneLedger.class.getDeclaredMethods()) {
            if (Modifier.isPrivate(method.getModifiers())) {
                hidden.add(method.getName());
            } else {
                checks.holds(method + " is public", Modifier.isPublic(method.getModifiers()));
                seen.add(told(method));
            }
        }
        checks.holds("the methods are " + due + ", seen " + seen, due.equals(seen));
        for (String method : seen) {
            String name = method.substring(method.indexOf(' ') + 1, method.indexOf('('));
            checks.holds("no private method is named " + name, !hidden.contains(name));
        }
        for (Field field : ZoneLedger.class.getDeclaredFields()) {
            boolean isConstant = field.getName().equals("NONE") || field.getName().equals("HIDDEN");
            checks.holds(field + " is seen or not as due", Modifier.isPublic(field.getModifiers()) == isConstant);
            checks.holds(field + " is private or public",
                    Modifier.isPublic(field.getModifiers()) || Modifier.isPrivate(field.getModifiers()));
        }
        Constructor<?>[] constructors = ZoneLedger.class.getDeclaredConstructors();
        checks.due("constructors", constructors.length, 1);
        checks.due("its parameters", constructors[0].getParameterCount(), 0);
        for (Class<?> inside : ZoneLedger.class.getDeclaredClasses()) {
            checks.holds(inside + " is static and not public",
                    Modifier.isStatic(inside.getModifiers()) && !Modifier.isPublic(inside.getModifiers()));
        }
        checks.due("NONE", ZoneLedger.NONE, -1);
        checks.due("HIDDEN", ZoneLedger.HIDDEN, -1000000);
        checks.finish();
    }

    private static String told(Method method) {
        StringBuilder text = new StringBuilder(method.getReturnType() + " " + method.getName() + "(");
        for (int i = 0; i < method.getParameterCount(); i++) {
            text.append(i == 0 ? "" : ",").append(method.getParameterTypes()[i]);
        }
        return text.append(")").toString();
    }
}
