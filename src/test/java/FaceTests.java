import java.lang.reflect.Field;
import java.lang.reflect.Method;
import java.lang.reflect.Modifier;
import java.util.ArrayList;
import java.util.Arrays;
import java.util.HashSet;
import java.util.List;
import java.util.Set;
import java.util.TreeSet;

/** The class has the document's face and, but for private members, nothing else. */
public final class FaceTests {
    private static final String[] FACE = {
        "int NONE", "int BAD", "int REFUSED", "int NOTHING",
        "int clear()", "int append(char)", "int block(int)", "int hang(int,int)", "int cut(int)", "int walk(int)",
        "int up(int)", "int weigh(int,int)", "int sledge(int)", "int pull()", "int read()", "int fault()",
        "int reason(int,boolean)", "int blockOf(int,int)", "int treeOf(int,int)", "int ropeOf(int,int)",
        "int placeOf(int)", "int ropes()", "int ropesAbove(int)", "int turnsFor(int)", "int sum(int)",
        "int sumAgain(int)", "int root(int)", "int rootAgain(int)", "int joint(int,int)", "int jointAgain(int,int)",
        "int sledgeOf(int,int)", "int ranked(int)", "int tellTree(int)", "int tellRopes()", "int written(int)",
        "int isWell()", "float meanDepth()", "double rootShare()", "int account(int)", "int undo()", "int save()",
        "int restore()"};

    private static String told(Method method) {
        List<String> types = new ArrayList<>();
        for (Class<?> type : method.getParameterTypes()) {
            types.add(type.getSimpleName());
        }
        return method.getReturnType().getSimpleName() + " " + method.getName() + "(" + String.join(",", types) + ")";
    }

    public static void main(String[] args) {
        Set<String> found = new TreeSet<>();
        Set<String> wrong = new TreeSet<>();
        Set<String> names = new HashSet<>();
        Class<?> face = QuarryRopes.class;
        for (Field field : face.getDeclaredFields()) {
            if (!Modifier.isPrivate(field.getModifiers())) {
                found.add(field.getType().getSimpleName() + " " + field.getName());
            } else if (Modifier.isStatic(field.getModifiers()) && !Modifier.isFinal(field.getModifiers())) {
                wrong.add("the static field " + field.getName() + " is not final");
            }
        }
        for (Method method : face.getDeclaredMethods()) {
            if (!Modifier.isPrivate(method.getModifiers())) {
                found.add(told(method));
                names.add(method.getName());
            }
        }
        List<Class<?>> inside = new ArrayList<>(Arrays.asList(face.getDeclaredClasses()));
        inside.add(face);
        for (Class<?> type : inside) {
            for (Method method : type.getDeclaredMethods()) {
                boolean isOfFace = type == face && !Modifier.isPrivate(method.getModifiers());
                if (!isOfFace && names.contains(method.getName())) {
                    wrong.add(type.getSimpleName() + "." + method.getName() + " bears the name of a public method");
                }
            }
            if (!Modifier.isStatic(type.getModifiers()) && type != face) {
                wrong.add(type.getSimpleName() + " is not static");
            }
        }
        Set<String> face2 = new TreeSet<>(Arrays.asList(FACE));
        for (String member : face2) {
            if (!found.contains(member)) {
                wrong.add("there is no " + member);
            }
        }
        for (String member : found) {
            if (!face2.contains(member)) {
                wrong.add("nobody asked for " + member);
            }
        }
        if (!Modifier.isFinal(face.getModifiers()) || face.getConstructors().length != 1) {
            wrong.add("the class is not final, or has not one public constructor");
        }
        if (QuarryRopes.NONE != -1 || QuarryRopes.BAD != -2 || QuarryRopes.REFUSED != -3 || QuarryRopes.NOTHING != -4) {
            wrong.add("a constant has another value");
        }
        for (String fault : wrong) {
            System.out.println(fault);
        }
        System.out.println("FaceTests: " + wrong.size() + " faults");
        if (!wrong.isEmpty()) {
            System.exit(1);
        }
    }
}
