import java.lang.management.ManagementFactory;
import java.lang.reflect.Field;
import java.lang.reflect.Method;
import java.lang.reflect.Modifier;
import java.util.ArrayList;
import java.util.List;
import java.util.TreeSet;

/** The public face is the document's and no more, and calls make no objects. */
public final class FaceTest {
    private static final String[] FACE = {"int functions 4", "int ofFunction 2", "int constant 1", "int unknown 1",
        "int apply 3", "int drop 0", "int ofTerm 2", "int price 2", "int given 2", "int needs 2", "int answers 2",
        "int answer 3", "int day 5", "int reading 2", "int back 1", "int kinds 1", "int branches 1", "long odds 3",
        "int sheet 3", "int lose 1", "int put 3", "long cell 3", "int copy 5", "int tell 1", "int note 1", "int as 2",
        "int trace 0", "int fault 0", "int many 1"};
    private static final String[] FIELDS = {"int UNKNOWN", "int OUTSIDE", "int STATE", "int FULL", "int NONE", "long LOST"};
    private static final Check check = new Check("FaceTest");

    public static void main(String[] args) {
        faceIsTheDocuments();
        callsMakeNoObjects();
        check.end();
    }

    private static void faceIsTheDocuments() {
        Class<?> face = NeededAnswers.class;
        TreeSet<String> methods = new TreeSet<>();
        TreeSet<String> hidden = new TreeSet<>();
        for (Method method : face.getDeclaredMethods()) {
            int signs = method.getModifiers();
            if (Modifier.isPrivate(signs)) hidden.add(method.getName());
            else methods.add(method.getReturnType() + " " + method.getName() + " " + method.getParameterCount()
                + (Modifier.isPublic(signs) && !Modifier.isStatic(signs) ? "" : " not public"));
        }
        check.is("methods " + methods, methods.equals(new TreeSet<>(List.of(FACE))) ? 1 : 0, 1);
        TreeSet<String> fields = new TreeSet<>();
        for (Field field : face.getDeclaredFields()) {
            if (!Modifier.isPrivate(field.getModifiers())) fields.add(field.getType() + " " + field.getName());
            if (Modifier.isStatic(field.getModifiers())) {
                check.is(field + " is final", Modifier.isFinal(field.getModifiers()) ? 1 : 0, 1);
            }
        }
        check.is("fields " + fields, fields.equals(new TreeSet<>(List.of(FIELDS))) ? 1 : 0, 1);
        check.is("public and final", face.getModifiers(), Modifier.PUBLIC | Modifier.FINAL);
        check.is("constructors", face.getDeclaredConstructors().length, 1);
        check.is("no package", face.getPackageName().length(), 0);
        for (String method : FACE) {
            check.is("hidden " + method, hidden.contains(method.split(" ")[1]) ? 1 : 0, 0);
        }
    }

    /** A run that has no room to spare: no call may make anything. */
    private static void callsMakeNoObjects() {
        com.sun.management.ThreadMXBean beans = (com.sun.management.ThreadMXBean) ManagementFactory.getThreadMXBean();
        long thread = Thread.currentThread().getId();
        List<Long> made = new ArrayList<>();
        for (int round = 0; round < 20; round++) {
            NeededAnswers x = Check.with("n;p30ob01fc12;d210c00f;w41bf20oc21");
            long before = beans.getThreadAllocatedBytes(thread);
            everyCall(x);
            made.add(beans.getThreadAllocatedBytes(thread) - before);
        }
        check.is("bytes made by calls " + made, java.util.Collections.min(made), 0);
    }

    private static void everyCall(NeededAnswers x) {
        x.sheet(0, 0, 4);
        x.put(0, 1, 2);
        x.cell(0, 0, 0);
        x.copy(0, 0, 0, 1, 2);
        x.lose(2);
        x.unknown(0);
        x.constant(1);
        x.apply(0, 0, 1);
        x.apply(2, 2, 0);
        x.given(1, 1);
        x.price(0, 4);
        x.reading(3, 4);
        x.functions(0, 0, 0, 3);
        for (int what = 0; what < 13; what++) {
            x.ofFunction(0, what);
            x.ofTerm(2, what);
            x.needs(3, what);
            x.answers(3, what);
            x.answer(3, 0, what);
            x.day(0, 0, 0, 1, what);
            x.odds(3, what & 3, 0);
            x.many(what);
        }
        x.kinds(0);
        x.branches(0);
        x.tell(2);
        x.note(2);
        x.as(0, 1);
        x.trace();
        x.fault();
        x.back(1);
        x.drop();
    }
}
