import java.lang.reflect.Method;
import java.lang.reflect.Modifier;
import java.util.Arrays;
import java.util.TreeSet;

/** The public face, and promise 1: no text, no rules read, no editions, no facts. */
public final class NewObjectTest {
    private static final String[] METHODS = {
        "public boolean unit(int)", "public int read()", "public int edition(long)",
        "public boolean fact(int,int,long,long,long)", "public boolean told(int,int,long)",
        "public long duty(int,long,long,int)", "public int open(int)", "public int step(int,int,int)",
        "public long allowed(int,int)", "public int returned(int)", "public long row(int,int)",
        "public long difference(int,long)", "public int write(int)", "public long interest(int,long,int)"};

    public static void main(String[] args) {
        face();
        newObject();
        objectsShareNothing();
        Checks.end();
    }

    private static void face() {
        Checks.due("NONE", DutyRules.NONE, -1);
        Checks.due("FULL", DutyRules.FULL, -2);
        Checks.due("final", Modifier.isFinal(DutyRules.class.getModifiers()), true);
        TreeSet<String> methods = new TreeSet<>();
        for (Method method : DutyRules.class.getDeclaredMethods()) {
            if (!Modifier.isPrivate(method.getModifiers())) {
                methods.add(method.toString().replace("DutyRules.", ""));
            }
        }
        TreeSet<String> promised = new TreeSet<>(Arrays.asList(METHODS));
        Checks.due("methods", methods.toString(), promised.toString());
        Checks.due("constructors", Arrays.toString(DutyRules.class.getConstructors()), "[public DutyRules()]");
    }

    private static void newObject() {
        DutyRules x = new DutyRules();
        Checks.due("write", x.write(0), DutyRules.NONE);
        Checks.due("open", x.open(0), DutyRules.NONE);
        Checks.due("open", x.open(1), DutyRules.NONE);
        Checks.due("open", x.open(2), DutyRules.NONE);
        Checks.due("step", x.step(0, 0, 0), DutyRules.NONE);
        Checks.due("step", x.step(DutyRules.NONE, 0, 0), DutyRules.NONE);
        Checks.due("row", x.row(0, 0), DutyRules.NONE);
        Checks.due("difference", x.difference(0, 29), 0);
        Checks.due("interest", x.interest(0, 29, 0), Checks.LEAST);
        Checks.due("told", x.told(0, 0, 0), false);
        Checks.dueAllowed(x, 0, 0, 1);
        Checks.dueOpen(x, 0, 0, 0, 20);
        Checks.due("returned", x.returned(0), 0);
        Checks.due("row of an empty return", x.row(0, 0), DutyRules.NONE);
        Checks.due("read of no text", x.read(), 0);
        Checks.due("first edition", x.edition(0), 0);
        Checks.dueOpen(x, 0, 0, 0, 0);
    }

    private static void objectsShareNothing() {
        DutyRules x = Checks.withEdition("rate 1 from 0 to 10000 pay 1000;", 0);
        Checks.tellFacts(x, 0, 0, 1, 5, 100);
        Checks.tell(x, "late");
        x.duty(0, 0, 0, 0);
        x.returned(0);
        newObject();
    }
}
