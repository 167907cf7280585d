import java.lang.reflect.Constructor;
import java.lang.reflect.Field;
import java.lang.reflect.Method;
import java.lang.reflect.Modifier;
import java.util.Set;
import java.util.TreeSet;

/** The public face: just what the document shows, and the constants as it tells them. */
public final class FaceTest {
    private static final String[] METHODS = {
        "int carve(int,int,int)", "int carved(int,int)", "int set(int,int)", "int count(int)", "int feed(long,int)",
        "int text()", "int force(int)", "int asks(int,int,int,int)", "int work(int,int,int)", "int forget()",
        "int workTold(int,int)", "int hull(int,int,int)", "int state(int,int)", "int days(int,int)",
        "int fewest(int,int)", "int crack(int,int)", "int far(int)", "long odds(int,int,int,int)",
        "int stop(int,int,int,int)", "int wished(int,int,int)", "int old(int)", "int copyOf(int,int)",
        "int even(int,int)", "int hours(int,int)", "long left(int,int,int)", "int judge(int,int)",
        "int floats(int,int,int)", "int bears(int,int)", "int bar(int,int,int)", "int tree(int,int,int,int)",
        "int bore(int,int)", "long worth(int,int)", "int which()", "long boring(int,int)", "int hole()",
        "int fell(int,int,int)", "int forest(int,int,int)", "int dries(int,int)", "int shade(int)",
        "int drawn(int,int,int,int)", "int image()", "int back()", "int sheet(int,int,int)", "int cell(int,int,int)",
        "int copy(int,int,int,int,int)", "int worksBy(int,int,int,int)", "int taken(int,int)"
    };

    private static String told(Method m) {
        StringBuilder all = new StringBuilder(m.getReturnType() + " " + m.getName() + "(");
        for (Class<?> p : m.getParameterTypes()) {
            all.append(all.charAt(all.length() - 1) == '(' ? "" : ",").append(p);
        }
        return all.append(")").toString();
    }

    private static void constants(Check check) {
        check.due("NONE", HollowedByFire.NONE, -1);
        check.due("BAD", HollowedByFire.BAD, -2);
        check.due("STATE", HollowedByFire.STATE, -3);
        check.due("FULL", HollowedByFire.FULL, -4);
        check.due("NO", HollowedByFire.NO, -4611686018427387904L);
        Set<String> open = new TreeSet<>();
        for (Field f : HollowedByFire.class.getDeclaredFields()) {
            if (!Modifier.isPrivate(f.getModifiers())) {
                open.add(Modifier.toString(f.getModifiers()) + " " + f.getType() + " " + f.getName());
            }
        }
        check.isTrue("the constants: " + open, open.equals(new TreeSet<>(Set.of("public static final int NONE",
            "public static final int BAD", "public static final int STATE", "public static final int FULL",
            "public static final long NO"))));
    }

    public static void main(String[] args) {
        Check check = new Check("FaceTest");
        constants(check);
        Class<?> c = HollowedByFire.class;
        check.isTrue("public final", Modifier.toString(c.getModifiers()).equals("public final"));
        Set<String> open = new TreeSet<>();
        Set<String> publicNames = new TreeSet<>();
        Set<String> privateNames = new TreeSet<>();
        for (Method m : c.getDeclaredMethods()) {
            boolean isPrivate = Modifier.isPrivate(m.getModifiers());
            (isPrivate ? privateNames : publicNames).add(m.getName());
            if (!isPrivate) {
                check.isTrue(m + " is public, and no more", Modifier.toString(m.getModifiers()).equals("public"));
                open.add(told(m));
            }
        }
        check.isTrue("the methods: " + open, open.equals(new TreeSet<>(Set.of(METHODS))));
        Constructor<?>[] made = c.getDeclaredConstructors();
        check.isTrue("one constructor", made.length == 1 && made[0].getParameterCount() == 0
            && Modifier.isPublic(made[0].getModifiers()));
        for (Class<?> inside : c.getDeclaredClasses()) {
            check.isTrue(inside + " is private and static", Modifier.isPrivate(inside.getModifiers())
                && Modifier.isStatic(inside.getModifiers()));
            for (Method m : inside.getDeclaredMethods()) {
                privateNames.add(m.getName());
            }
        }
        privateNames.retainAll(publicNames);
        check.isTrue("no other method bears a public one's name: " + privateNames, privateNames.isEmpty());
        check.end();
    }
}
