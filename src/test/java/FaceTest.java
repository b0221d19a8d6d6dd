import java.lang.reflect.Constructor;
import java.lang.reflect.Field;
import java.lang.reflect.Method;
import java.lang.reflect.Modifier;
import java.util.Arrays;
import java.util.TreeSet;

/** The class has the document's public face and no other member that is not private. */
public final class FaceTest {
    private static final String[] FACE = {
        "int feed(int,int,int,int,int)", "boolean letters(int)", "int word(int)", "int sub(int)", "boolean drop(boolean)",
        "int letter(int,int,boolean)", "int ask(int)", "int fault()", "boolean begin(int,int)", "int step()", "int run(int)",
        "int cell(int,int)", "int row(int)", "int about(int)", "int index()", "boolean rename()", "int pack()",
        "int lead(int)", "int is()", "int within()", "int power()", "int cycles(int,int)", "int least(int)",
        "int farthest()", "int tell(int,int)", "int out(int)", "int low(int)", "int lowly(int)", "int small(int,int,int)",
        "int size(int)", "int normal(int)", "boolean keep()", "boolean back()", "boolean sheet(int)",
        "boolean put(int,int,int)", "int check()", "int trouble()", "int where()",
    };
    private static int wrong = 0;

    private static void due(String what, Object got, Object want) {
        if (!got.equals(want)) {
            wrong++;
            System.out.println(what + ": " + got + ", due is " + want);
        }
    }

    private static String told(Method m) {
        StringBuilder s = new StringBuilder(m.getReturnType() + " " + m.getName() + "(");
        for (Class<?> p : m.getParameterTypes()) s.append(s.charAt(s.length() - 1) == '(' ? "" : ",").append(p);
        return s.append(')').toString();
    }

    public static void main(String[] args) {
        Class<?> house = CosetHouse.class;
        due("public and final", Modifier.isPublic(house.getModifiers()) && Modifier.isFinal(house.getModifiers()), true);
        TreeSet<String> open = new TreeSet<>();
        TreeSet<String> names = new TreeSet<>();
        for (Method m : house.getDeclaredMethods()) {
            if (Modifier.isPrivate(m.getModifiers()) || m.isSynthetic()) continue;
            due(m.getName() + " is public and of an object", m.getModifiers(), Modifier.PUBLIC);
            open.add(told(m));
            names.add(m.getName());
        }
        due("the methods", open, new TreeSet<>(Arrays.asList(FACE)));
        for (Method m : house.getDeclaredMethods())
            if (Modifier.isPrivate(m.getModifiers())) due("private " + m.getName() + " bears a public name", names.contains(m.getName()), false);
        for (Class<?> inside : house.getDeclaredClasses()) {
            due(inside + " is static", Modifier.isStatic(inside.getModifiers()), true);
            for (Method m : inside.getDeclaredMethods())
                due(inside + "." + m.getName() + " bears a public name", names.contains(m.getName()), false);
        }
        for (Field f : house.getDeclaredFields()) {
            boolean constant = f.getName().equals("NONE");
            due(f.getName() + " is private", Modifier.isPrivate(f.getModifiers()), !constant);
            if (Modifier.isStatic(f.getModifiers())) due(f.getName() + " is final", Modifier.isFinal(f.getModifiers()), true);
        }
        Constructor<?>[] makers = house.getDeclaredConstructors();
        due("constructors", makers.length, 1);
        due("the constructor", makers[0].getParameterCount() + " " + makers[0].getModifiers(), "0 " + Modifier.PUBLIC);
        due("NONE", CosetHouse.NONE, -1);
        System.out.println(wrong == 0 ? "the face is as due" : wrong + " members are not as due");
        if (wrong != 0) System.exit(1);
    }
}
