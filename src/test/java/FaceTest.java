import java.lang.reflect.Constructor;
import java.lang.reflect.Field;
import java.lang.reflect.Method;
import java.lang.reflect.Modifier;
import java.util.Arrays;
import java.util.Set;
import java.util.TreeSet;

// The face is the document's and nothing else; odd arguments in odd states throw only what word may throw.
public final class FaceTest {
    private static final int MIN = Integer.MIN_VALUE, MAX = Integer.MAX_VALUE;
    private static final int[] ODD = {MIN, MIN + 1, -1001, -103, -2, -1, 0, 1, 2, 5, 7, 8, 9, 10, 11, 23, 24, 25, 31, 32, 33,
        47, 48, 119, 120, 1000, 1001, MAX - 1, MAX};
    private static int wrong = 0;

    private static void fault(String what) {
        wrong++;
        System.out.println(what);
    }

    private static void sameNames(String what, Set<String> got, String... due) {
        Set<String> wanted = new TreeSet<>(Arrays.asList(due));
        if (!got.equals(wanted)) {
            fault(what + " are " + got + ", due are " + wanted);
        }
    }

    private static void face() throws ReflectiveOperationException {
        int kind = ParityRow.class.getModifiers();
        if (!Modifier.isPublic(kind) || !Modifier.isFinal(kind)) {
            fault("the class is not public and final");
        }
        Set<String> methods = new TreeSet<>();
        Set<String> hidden = new TreeSet<>();
        for (Method m : ParityRow.class.getDeclaredMethods()) {
            if (Modifier.isPrivate(m.getModifiers())) {
                hidden.add(m.getName());
            } else {
                methods.add(Modifier.toString(m.getModifiers()) + " " + m.getReturnType() + " " + m.getName()
                        + m.getParameterCount());
            }
        }
        sameNames("methods", methods, "public int members0", "public int place2", "public int write3",
                "public int look1", "public int word2", "public int drain1", "public int lose1", "public int spare0",
                "public int build1", "public int scrub1", "public int rot4", "public int cut2", "public int start1",
                "public int chunk3", "public int member2", "public int journal1", "public int record2",
                "public int count1", "public int audit0");
        for (Method m : ParityRow.class.getDeclaredMethods()) {
            if (Modifier.isPublic(m.getModifiers()) && hidden.contains(m.getName())) {
                fault("a private method bears the name of a public one: " + m.getName());
            }
        }
        Set<String> constants = new TreeSet<>();
        for (Field f : ParityRow.class.getDeclaredFields()) {
            if (!Modifier.isPrivate(f.getModifiers())) {
                constants.add(Modifier.toString(f.getModifiers()) + " " + f.getType() + " " + f.getName() + " "
                        + f.get(null));
            }
        }
        String kindOf = "public static final int ";
        sameNames("constants", constants, kindOf + "NONE -1", kindOf + "DOWN -100", kindOf + "UNKNOWN -101",
                kindOf + "OUTSIDE -102", kindOf + "STATE -103", kindOf + "FAILED -105", kindOf + "LOST -106");
        Constructor<?>[] made = ParityRow.class.getDeclaredConstructors();
        if (made.length != 1 || !Modifier.isPublic(made[0].getModifiers())) {
            fault("there is not one public constructor");
        }
    }

    /** In state 0 all is ON, in 1 a member is LOST, in 2 it is NEW, in 3 the power is gone. */
    private static ParityRow rowIn(int members, int state) {
        ParityRow row = new ParityRow(members);
        row.write(0, 2, 5);
        row.rot(1, 1, 1, 1);
        if (state > 0) {
            row.lose(1);
        }
        if (state > 1) {
            row.spare();
            row.build(3);
        }
        if (state > 2) {
            row.write(0, 2, 7);
            row.cut(0, 4);
            row.drain(1);
        }
        return row;
    }

    private static void allCalls(ParityRow row, int a, int b) {
        row.place(a, b);
        row.look(a);
        row.rot(a, b, b, a);
        row.chunk(a, b, a);
        row.member(a, b);
        row.journal(a);
        row.record(a, b);
        row.count(a);
        row.audit();
        row.write(a, b, a);
        row.drain(a);
        row.build(a);
        row.scrub(b);
        row.lose(a);
        row.spare();
        row.cut(a, b);
        row.start(b);
        try {
            row.word(a, b);
            if (a < 0 || a > 119 || b < 0 || b > 7) {
                fault("word(" + a + ", " + b + ") threw nothing");
            }
        } catch (IndexOutOfBoundsException e) {
            // ArrayIndexOutOfBoundsException is one too, but the machine's.
            if (e.getClass() != IndexOutOfBoundsException.class || a >= 0 && a < 48 && b >= 0 && b < 8) {
                fault("word(" + a + ", " + b + ") threw " + e);
            }
        } catch (IllegalStateException e) {
            if (a < 0 || a > 119 || b < 0 || b > 7) {
                fault("word(" + a + ", " + b + ") threw " + e);
            }
        }
    }

    public static void main(String[] args) throws ReflectiveOperationException {
        face();
        for (int a : ODD) {
            for (int b : ODD) {
                for (int state = 0; state < 4; state++) {
                    try {
                        allCalls(rowIn(a, state), a, b);
                        allCalls(rowIn(state, 3), b, a);
                    } catch (RuntimeException e) {
                        fault("arguments " + a + ", " + b + " in state " + state + ": " + e);
                    }
                }
            }
        }
        System.out.println(wrong == 0 ? "the face is as due" : wrong + " faults");
        if (wrong != 0) {
            System.exit(1);
        }
    }
}
