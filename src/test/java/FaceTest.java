import java.lang.reflect.Constructor;
import java.lang.reflect.Field;
import java.lang.reflect.Member;
import java.lang.reflect.Method;
import java.lang.reflect.Modifier;
import java.util.Set;
import java.util.TreeSet;

/** The class has the document's face, and nothing else can be seen of it. */
public final class FaceTest {
    private static final Set<String> FACE = Set.of(
        "int rota(int,int)", "int rotaOf(int)", "int sick(int,int)", "int force(int)", "int blows(int)",
        "int lee(int,int)", "int thing(int,int)", "int of(int,int)", "int set(int,int,int)", "int turn(int,int)",
        "int as(int,int)", "int days(int)", "int bribe(int)", "int now(int)", "int on(int,int,int)",
        "int comes(int,int)", "int meet(int,int)", "int bribes(int,int,int)", "int soonest(int,int,int)",
        "long reach(int,int)", "int swap(int)", "int missed(int)", "int enough(int,int)", "int kind(int,int)",
        "int facing(int,int)", "int best(int,int)", "int feed(int,int)", "int wipe()", "int sea()",
        "int sheet(int,int,int)", "long write(int,int,long)", "int copy(int,int,int,int,int)", "int lays(int)",
        "int book(int,int)", "int read(int,int)", "int image()", "int undo()", "int tear()", "int count(int)",
        "int status(int)");

    public static void main(String[] args) {
        Class<?> type = WindRota.class;
        Due.holds("public and final", Modifier.isPublic(type.getModifiers()) && Modifier.isFinal(type.getModifiers()));
        Set<String> names = new TreeSet<>();
        Set<String> seen = new TreeSet<>();
        for (Method m : type.getDeclaredMethods()) {
            if (Modifier.isPublic(m.getModifiers())) {
                seen.add(told(m));
                names.add(m.getName());
                Due.holds(m + " is no static method", !Modifier.isStatic(m.getModifiers()));
            } else {
                isHidden(m);
            }
        }
        Due.holds("the methods are the document's: " + seen, seen.equals(FACE));
        Constructor<?>[] makers = type.getDeclaredConstructors();
        Due.is("constructors", makers.length, 1);
        Due.holds("a public constructor without arguments",
            Modifier.isPublic(makers[0].getModifiers()) && makers[0].getParameterCount() == 0);
        for (Field f : type.getDeclaredFields()) {
            isHidden(f);
            isStill(f);
        }
        Due.holds("at most twelve classes", type.getDeclaredClasses().length < 12);
        for (Class<?> inside : type.getDeclaredClasses()) {
            Due.holds(inside + " is static", Modifier.isStatic(inside.getModifiers()));
            Due.holds(inside + " is private", Modifier.isPrivate(inside.getModifiers()));
            for (Field f : inside.getDeclaredFields()) {
                isStill(f);
            }
            for (Method m : inside.getDeclaredMethods()) {
                Due.holds(m + " bears no name of the face", !names.contains(m.getName()));
            }
        }
        Due.end();
    }

    private static void isHidden(Member member) {
        Due.holds(member + " is private", Modifier.isPrivate(member.getModifiers()) || member.isSynthetic());
    }

    private static void isStill(Field f) {
        Due.holds(f + " is no static state", !Modifier.isStatic(f.getModifiers()) || Modifier.isFinal(f.getModifiers()));
    }

    private static String told(Method m) {
        StringBuilder text = new StringBuilder(m.getReturnType().getName()).append(' ').append(m.getName()).append('(');
        for (Class<?> type : m.getParameterTypes()) {
            text.append(text.charAt(text.length() - 1) == '(' ? "" : ",").append(type.getName());
        }
        return text.append(')').toString();
    }
}
