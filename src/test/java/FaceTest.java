import java.lang.reflect.Field;
import java.lang.reflect.Method;
import java.lang.reflect.Modifier;
import java.util.TreeSet;

/** The public face: exactly the members of the document, and no private method with a public name. */
public final class FaceTest {
    private static final String[] METHODS = {
        "int feed(long,int)", "int take(boolean)", "int out(int)", "int read()", "int where()", "void clear()",
        "int make(int,int,long)", "int letter(int,char)", "int frame(int,int)",
        "int block(int,int,int,boolean,int)", "int id(int)", "int parent(int)", "long value(int)",
        "int part(int,int)", "int sample(int,int,int)", "int detail(int,int)", "int write(boolean)",
        "int index(int)", "int seek(int,int,long)", "int jump(int,int,long)",
    };

    public static void main(String[] args) throws Exception {
        methods();
        constants();
        constructor();
        Due.finish();
    }

    private static String told(Method method) {
        StringBuilder text = new StringBuilder(method.getReturnType() + " " + method.getName() + "(");
        String comma = "";
        for (Class<?> type : method.getParameterTypes()) {
            text.append(comma).append(type);
            comma = ",";
        }
        return text.append(")").toString();
    }

    private static void methods() {
        TreeSet<String> due = new TreeSet<>();
        TreeSet<String> names = new TreeSet<>();
        for (String method : METHODS) {
            due.add(method);
            names.add(method.substring(method.indexOf(' ') + 1, method.indexOf('(')));
        }
        TreeSet<String> found = new TreeSet<>();
        for (Method method : ElementFiles.class.getDeclaredMethods()) {
            if (!Modifier.isPrivate(method.getModifiers())) {
                found.add(told(method));
                Due.is(method + " is public, of the object",
                        method.getModifiers() == Modifier.PUBLIC ? 1 : 0, 1);
            } else {
                Due.is(method + " has a public name", names.contains(method.getName()) ? 1 : 0, 0);
            }
        }
        Due.is("the methods", found.toString(), due.toString());
    }

    private static void constants() throws Exception {
        String[] names = {"NONE", "CUT", "FORM", "MISPLACED", "OPEN", "ROOM", "DATA", "LONG"};
        int seen = 0;
        for (Field field : ElementFiles.class.getDeclaredFields()) {
            if (!Modifier.isPrivate(field.getModifiers())) {
                seen++;
            }
        }
        Due.is("how many constants", seen, names.length);
        for (int i = 0; i < names.length; i++) {
            Field field = ElementFiles.class.getDeclaredField(names[i]);
            Due.is(names[i], field.getInt(null), -1 - i);
            Due.is(names[i] + " is public static final", field.getModifiers(),
                    Modifier.PUBLIC | Modifier.STATIC | Modifier.FINAL);
        }
    }

    private static void constructor() {
        Due.is("constructors", ElementFiles.class.getDeclaredConstructors().length, 1);
        Due.is("it is public", ElementFiles.class.getDeclaredConstructors()[0].getModifiers(), Modifier.PUBLIC);
        Due.is("it takes nothing", ElementFiles.class.getDeclaredConstructors()[0].getParameterCount(), 0);
        Due.is("the class is public and final", ElementFiles.class.getModifiers(),
                Modifier.PUBLIC | Modifier.FINAL);
    }
}
