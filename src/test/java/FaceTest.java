import java.lang.reflect.Constructor;
import java.lang.reflect.Field;
import java.lang.reflect.Method;
import java.lang.reflect.Modifier;
import java.util.Arrays;
import java.util.Set;
import java.util.TreeSet;

/** The public face of the document, and nothing beside it. */
public final class FaceTest {
    private static final String[] FACE = {
        "int leg(int,int)", "boolean cold(int,int,int)", "int feed(int,int,int,int,int)", "int plan(int)",
        "int laws(int)", "int fault()", "int where()", "int team(int,int,int,int,int)",
        "boolean follow(int,int)", "int gap(int,int,int)", "boolean each(int)", "int run(int)",
        "int about(int,int)", "int dog(int,int,int)", "int time(int,int,boolean)", "int did(int)",
        "int result(int)", "int lacks(int,int)", "int place(int)", "int came(int,int)",
        "int spot(int,int,boolean)", "int signs(int)", "int replay(int,int,int)", "boolean keep()",
        "boolean back()", "int law(int,int)", "int planned(int,int)", "int count(int)", "int trouble()"
    };

    public static void main(String[] args) {
        Class<?> house = SledHouse.class;
        Checks.due("final", Modifier.isFinal(house.getModifiers()), true);
        Set<String> open = new TreeSet<>();
        Set<String> hidden = new TreeSet<>();
        for (Method method : house.getDeclaredMethods()) {
            if (Modifier.isPrivate(method.getModifiers())) {
                hidden.add(method.getName());
            } else {
                open.add(described(method));
            }
        }
        Set<String> want = new TreeSet<>(Arrays.asList(FACE));
        if (!open.equals(want)) {
            Checks.due("the face " + open + " (wanted " + want + ")", 0, 1);
        }
        for (String one : FACE) {
            String name = one.substring(one.indexOf(' ') + 1, one.indexOf('('));
            Checks.due("a private method " + name, hidden.contains(name), false);
        }
        for (Field field : house.getDeclaredFields()) {
            boolean isOpen = !Modifier.isPrivate(field.getModifiers());
            Checks.due("open field " + field.getName(), isOpen, field.getName().equals("NONE"));
        }
        Constructor<?>[] makers = house.getDeclaredConstructors();
        Checks.due("constructors", makers.length, 1);
        Checks.due("its parameters", makers[0].getParameterCount(), 0);
        Checks.due("NONE", SledHouse.NONE, -1);
        Checks.end("FaceTest");
    }

    private static String described(Method method) {
        StringBuilder text = new StringBuilder(method.getReturnType().getName() + " " + method.getName() + "(");
        for (Class<?> type : method.getParameterTypes()) {
            text.append(text.charAt(text.length() - 1) == '(' ? "" : ",").append(type.getName());
        }
        return text.append(")").toString();
    }
}
