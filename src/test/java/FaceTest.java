import java.lang.reflect.Constructor;
import java.lang.reflect.Field;
import java.lang.reflect.Method;
import java.lang.reflect.Modifier;
import java.util.ArrayList;
import java.util.List;
import java.util.TreeSet;

/** The public face of the class, as the document and the rules 1, 5 and 11 of LANGUAGE.md say it. */
public final class FaceTest {
    private static final String[] METHODS = {
        "int addGood(int,int)", "int setPrice(int,int)", "int addSubstitute(int,int,int)",
        "int removeSubstitute(int,int)", "int setStage(int,int,int)", "int set(int,int)",
        "int setRebate(int)", "int bring(int,int,int)", "int readDelivery()",
        "int order(int,int,int,boolean)", "int breakUnits(int,int)", "int recall(int)",
        "int pass(int)", "int type(char)", "int clearText()", "int undo()", "int keep()",
        "int restore()", "int good(int,int)", "int substitute(int,int)", "int batch(int,int)",
        "float unitPrice(int)", "float markdown(int)", "int stage(int,int)",
        "int orderTold(int,int)", "int taken(int,int,int)", "int wouldGet(int,int,int,boolean,int)",
        "int wouldExpire(int,int)", "int stageIn(int,int)", "int event(int,int)",
        "int takes(int,boolean,int)", "int count(int)"};
    private static final Check CHECK = new Check("face");

    public static void main(String[] args) throws IllegalAccessException {
        Class<?> face = ShelfStages.class;
        CHECK.due("modifiers", face.getModifiers(), Modifier.PUBLIC | Modifier.FINAL);
        methods(face);
        constants(face);
        constructors(face);
        classesInside(face);
        Check.end();
    }

    private static void methods(Class<?> face) {
        TreeSet<String> told = new TreeSet<>();
        TreeSet<String> names = new TreeSet<>();
        List<String> hidden = new ArrayList<>();
        for (Method method : face.getDeclaredMethods()) {
            if (Modifier.isPrivate(method.getModifiers())) {
                hidden.add(method.getName());
            } else {
                CHECK.due(method + " modifiers", method.getModifiers(), Modifier.PUBLIC);
                told.add(method.getReturnType() + " " + method.getName() + arguments(method));
                names.add(method.getName());
            }
        }
        CHECK.dueText("methods", told.toString(), new TreeSet<>(List.of(METHODS)).toString());
        hidden.retainAll(names);
        CHECK.dueText("private methods with public names", hidden.toString(), "[]");
    }

    private static String arguments(Method method) {
        List<String> types = new ArrayList<>();
        for (Class<?> type : method.getParameterTypes()) {
            types.add(type.getName());
        }
        return "(" + String.join(",", types) + ")";
    }

    private static void constants(Class<?> face) throws IllegalAccessException {
        TreeSet<String> told = new TreeSet<>();
        for (Field field : face.getDeclaredFields()) {
            int modifiers = field.getModifiers();
            if (!Modifier.isPrivate(modifiers)) {
                CHECK.due(field + " modifiers", modifiers,
                    Modifier.PUBLIC | Modifier.STATIC | Modifier.FINAL);
                told.add(field.getName() + "=" + field.getInt(null));
            }
        }
        CHECK.dueText("constants", told.toString(),
            "[BAD_VALUE=-2, FULL=-3, NONE=-5, NOT_POSSIBLE=-4, UNKNOWN=-1]");
    }

    private static void constructors(Class<?> face) {
        CHECK.due("constructors", face.getDeclaredConstructors().length, 1);
        for (Constructor<?> constructor : face.getDeclaredConstructors()) {
            CHECK.dueText("constructor", constructor.toString(), "public ShelfStages()");
        }
    }

    private static void classesInside(Class<?> face) {
        int classes = face.getDeclaredClasses().length;
        CHECK.due("more than twelve classes", classes > 12 ? 1 : 0, 0);
        for (Class<?> inside : face.getDeclaredClasses()) {
            int modifiers = inside.getModifiers();
            CHECK.due(inside + " is private and static", modifiers & (Modifier.PRIVATE | Modifier.STATIC),
                Modifier.PRIVATE | Modifier.STATIC);
            int fields = 0;
            for (Field field : inside.getDeclaredFields()) {
                boolean isConstant = Modifier.isStatic(field.getModifiers());
                fields += isConstant ? 0 : 1;
                CHECK.due(field + " changes and is static",
                    isConstant && !Modifier.isFinal(field.getModifiers()) ? 1 : 0, 0);
            }
            CHECK.due(inside + " has more than twenty fields", fields > 20 ? 1 : 0, 0);
        }
    }
}
