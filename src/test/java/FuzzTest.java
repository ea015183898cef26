import java.lang.reflect.InvocationTargetException;
import java.lang.reflect.Method;
import java.util.ArrayList;
import java.util.Arrays;
import java.util.Comparator;
import java.util.List;
import java.util.Random;

/**
 * Calls by chance, right and wrong ones: a call throws only what its face tells, by a throw of the program (never a
 * class below it, as the machine throws), and one that throws changes nothing but the TAPE.
 */
final class FuzzTest {
    private static final int[] EDGES = {Integer.MIN_VALUE, -2, -1, 0, 1, 2, 3, 4, 5, 6, 7, 8, 9, 10, 11, 12, 20, 21,
        39, 40, 50, 60, 61, 99, 100, 101, 110, 200, 250, 255, 256, 400, 401, 1000, 1001, 100000, Integer.MAX_VALUE};
    private static final String[] WORDS = {"wash", "stone", "bleach", "rinse", "bears", "pours", "litres", "minutes",
        "again", "pack", "band", "to", "away", "times", "with", ";", ";", ";", " ", "1", "2", "3", "20", "60", "101",
        "0", "007", "0001", "x", "washing", "\u00ff", "\0"};
    private static final String[] RECIPES = {"wash 3;rinse", "stone 2;bleach 2;rinse", "wash 20;wash 20;stone 9",
        "bleach 20;stone 20", "rinse", ""};
    private static final String[] HOUSES = {"again 5 times with wash 3;pack 1;band 50;litres 1",
        "bears wash 100;bears rinse 60;pours wash to 0;pours rinse to 1;pours stone to 2;pack 2",
        "minutes wash 60;minutes rinse 60;again 1 times with bleach 20;pack 3;band 0", ""};

    private final Random random;
    private final TrouserWash x = new TrouserWash();

    private FuzzTest(long seed) {
        random = new Random(seed);
    }

    public static void main(String[] args) throws Exception {
        List<Method> methods = new ArrayList<>(Arrays.asList(TrouserWash.class.getDeclaredMethods()));
        methods.removeIf(m -> !java.lang.reflect.Modifier.isPublic(m.getModifiers()));
        methods.sort(Comparator.comparing(Method::getName));
        for (int run = 0; run < 400; run++) {
            FuzzTest one = new FuzzTest(run);
            int calls = run % 50 == 0 ? 5000 : 512;
            one.begin();
            for (int i = 0; i < calls; i++) {
                one.call(methods.get(one.random.nextInt(methods.size())), run);
            }
        }
        Check.done("FuzzTest");
    }

    /** So that most calls find something to work on. */
    private void begin() {
        for (int i = 0; i < 3; i++) {
            x.cloth(60 + 60 * i, 100, 3 * i);
            x.tank(50 + i * 100);
            x.machine(10 + 20 * i);
        }
    }

    private int number() {
        return random.nextInt(3) == 0 ? EDGES[random.nextInt(EDGES.length)] : random.nextInt(random.nextInt(12) + 1);
    }

    private void call(Method method, int run) throws Exception {
        if (method.getName().equals("recipe") || method.getName().equals("house")) {
            putText(method.getName().equals("recipe") ? RECIPES : HOUSES);
        }
        Object[] arguments = new Object[method.getParameterCount()];
        for (int i = 0; i < arguments.length; i++) {
            arguments[i] = method.getParameterTypes()[i] == int.class ? (Object) number() : random.nextBoolean();
        }
        String before = random.nextInt(8) == 0 ? all() : null;
        String what = "run " + run + ", " + method.getName() + Arrays.toString(arguments);
        try {
            method.invoke(x, arguments);
        } catch (InvocationTargetException e) {
            Class<?> thrown = e.getCause().getClass();
            Check.is(what + " throws what it may: " + thrown,
                    Arrays.asList(method.getExceptionTypes()).contains(thrown), true);
            if (before != null) {
                Check.is(what + " throws, and what was changed", all(), before);
            }
        }
    }

    private void putText(String[] right) {
        if (random.nextInt(3) == 0) {
            StringBuilder text = new StringBuilder();
            for (int i = random.nextInt(12); i > 0; i--) {
                text.append(WORDS[random.nextInt(WORDS.length)]).append(random.nextBoolean() ? " " : "");
            }
            Check.put(x, text.toString());
        } else {
            Check.put(x, right[random.nextInt(right.length)]);
        }
    }

    /** All that can be asked without a change. */
    private String all() {
        StringBuilder text = new StringBuilder();
        for (int what = 0; what <= 18; what++) {
            text.append(x.count(what)).append(' ');
        }
        for (int what = 0; what <= 17; what++) {
            text.append(x.tells(what)).append(' ');
        }
        text.append(x.cost()).append(' ').append(x.order()).append(' ').append(x.shift()).append(' ');
        for (int i = 0; i < x.count(0); i++) {
            text.append(x.ready(i)).append(' ').append(x.look(i, 20, 0)).append(' ').append(x.look(i, 20, 3));
        }
        for (int i = 0; i < 3 * x.count(3); i++) {
            text.append(x.has(i / 3, i % 3)).append(' ');
        }
        for (int i = 0; i < 5 * x.count(11); i++) {
            text.append(x.works(i / 5, i % 5)).append(' ');
        }
        for (int lot = 0; lot < x.count(12); lot++) {
            for (int what = 0; what <= 15; what++) {
                text.append(x.led(lot, what)).append(' ');
            }
            for (int piece = 0; piece < x.led(lot, 11); piece++) {
                text.append(x.known(lot, piece, x.count(10)));
            }
        }
        for (int i = 0; i < 192; i++) {
            text.append(x.burned(i / 96, i % 12, i / 12 % 8)).append(' ');
        }
        text.append(x.spread(1)).append(' ').append(x.packs(2, 9, true));
        return text.toString();
    }
}
