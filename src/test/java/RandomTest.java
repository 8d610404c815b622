import java.lang.reflect.InvocationTargetException;
import java.lang.reflect.Method;
import java.lang.reflect.Modifier;
import java.lang.reflect.Parameter;
import java.util.ArrayList;
import java.util.Arrays;
import java.util.Comparator;
import java.util.List;
import java.util.Map;
import java.util.Random;
import java.util.Set;

/**
 * All promises: runs of 512 calls that the class and the model have to answer alike. The runs are the same each time:
 * each one is told by its number. With a number as argument that run alone is made.
 */
public final class RandomTest {
    private static final int RUNS = 1500;
    private static final int CALLS = 512;
    private static final int[] WILD = {-1, 0, 1, -2, 2, 3, 4, 8, 16, 120, 121, 1000, 1001, -1000, -1001, 9999, 10000, 10001,
        100000, 100001, Integer.MIN_VALUE, Integer.MIN_VALUE + 1, Integer.MAX_VALUE, 1 << 30};
    private static final int[][] TABLES = {
        {0, 1, 2, 3, 1, 2, 3, 0, 2, 3, 0, 1, 3, 0, 1, 2},
        {0, 0, 0, 0, 0, 1, 2, 3, 0, 2, 0, 2, 0, 3, 2, 1},
        {0, 0, 0, 0, 1, 1, 1, 1, 2, 2, 2, 2, 3, 3, 3, 3},
        {0, 1, 2, 3, 0, 1, 2, 3, 0, 1, 2, 3, 0, 1, 2, 3},
        {0, 0, 0, 0, 0, 1, 2, 0, 0, 1, 2, 0, 0, 0, 0, 0},
        {0, 0, 0, 0, 0, 1, 1, 0, 0, 2, 2, 0, 0, 0, 0, 0},
        {0, 1, 0, 1, 0, 1, 0, 1, 2, 3, 2, 3, 2, 3, 2, 3},
        {1, 2, 3, 0, 2, 3, 0, 1, 3, 0, 1, 2, 0, 1, 2, 3},
        {0, 0, 0, 0, 0, 0, 0, 2, 0, 0, 0, 0, 0, 0, 0, 1},
        {0, 3, 2, 1, 1, 0, 3, 2, 2, 1, 0, 3, 3, 2, 1, 0},
    };
    private static final int[] BOUNDS = {Integer.MIN_VALUE, Integer.MIN_VALUE + 1, Integer.MAX_VALUE};
    /** How often a call stands among the others; 2 where nothing is said. */
    private static final Map<String, Integer> OFTEN = Map.ofEntries(Map.entry("come", 60), Map.entry("burst", 8),
        Map.entry("leave", 6), Map.entry("until", 4), Map.entry("take", 4), Map.entry("alter", 4), Map.entry("open", 3),
        Map.entry("shut", 1), Map.entry("link", 4), Map.entry("watch", 6), Map.entry("keep", 3), Map.entry("back", 2),
        Map.entry("unlink", 1), Map.entry("state", 8), Map.entry("lane", 8), Map.entry("event", 6),
        Map.entry("rings", 6), Map.entry("rang", 6), Map.entry("linked", 4), Map.entry("total", 6),
        Map.entry("about", 6), Map.entry("table", 1), Map.entry("letter", 1), Map.entry("parted", 1));

    private static final Set<String> ENDS = Set.of("open", "shut", "back", "unlink", "until", "leave", "link");

    private final Random random;
    private final SlideFold real = new SlideFold();
    private final Model model = new Model();
    private final List<String> told = new ArrayList<>();
    private final int span;
    private final int lateness;
    private final int rush;
    /** In some runs lanes, links and watches stand long, and few go. */
    private final boolean calm;
    /** In some runs the lanes are nearly full from the first on. */
    private final boolean crowded;
    private final int lanes;
    private int lane;
    private String call;
    private int made = 0;

    private RandomTest(int run) {
        random = new Random(run * 7919L + 17);
        span = pick(1, 2, 5, 20, 1000);
        lateness = pick(0, 3, 20, 200);
        rush = pick(0, 1, 4, 50);
        calm = random.nextInt(2) == 0;
        crowded = random.nextInt(4) == 0;
        lanes = pick(1, 2, 4);
    }

    public static void main(String[] args) throws ReflectiveOperationException {
        List<Method> methods = new ArrayList<>();
        for (Method method : SlideFold.class.getDeclaredMethods()) {
            if (Modifier.isPublic(method.getModifiers())) {
                methods.add(method);
            }
        }
        methods.sort(Comparator.comparing(Method::getName));
        Due.is("the methods of the face", methods.size(), 51);
        List<Method> weighed = new ArrayList<>();
        for (Method method : methods) {
            for (int i = 0; i < OFTEN.getOrDefault(method.getName(), 2); i++) {
                weighed.add(method);
            }
        }
        int first = args.length > 0 ? Integer.parseInt(args[0]) : 0;
        int end = args.length > 0 ? first + 1 : RUNS;
        int failed = 0;
        for (int run = first; run < end && failed < 3; run++) {
            boolean alike = new RandomTest(run).run(run, methods, weighed);
            Due.is("run " + run + " is alike", alike, true);
            failed += alike ? 0 : 1;
        }
        Due.end("RandomTest");
    }

    private boolean run(int run, List<Method> methods, List<Method> weighed) throws ReflectiveOperationException {
        if (!begin()) {
            return tell(run);
        }
        while (made < CALLS - 60) {
            Method method = weighed.get(random.nextInt(weighed.size()));
            if ((calm || crowded) && ENDS.contains(method.getName()) && random.nextInt(20) != 0) {
                continue;
            }
            if (!answersAlike(method, arguments(method))) {
                return tell(run);
            }
        }
        return standsAlike() || tell(run);
    }

    private boolean tell(int run) {
        System.out.println("run " + run + ":");
        told.forEach(System.out::println);
        return false;
    }

    private boolean answersAlike(Method method, int... arguments) throws ReflectiveOperationException {
        Object[] boxed = Arrays.stream(arguments).boxed().toArray();
        Object want = Model.class.getMethod(method.getName(), method.getParameterTypes()).invoke(model, boxed);
        Object got;
        try {
            got = method.invoke(real, boxed);
        } catch (InvocationTargetException thrown) {
            got = thrown.getCause();
        }
        made++;
        boolean alike = want.equals(got);
        told.add("  " + method.getName() + Arrays.toString(arguments) + " = " + got + (alike ? "" : ", due is " + want));
        return alike;
    }

    private boolean answersAlike(String name, int... arguments) throws ReflectiveOperationException {
        Class<?>[] types = new Class<?>[arguments.length];
        Arrays.fill(types, int.class);
        return answersAlike(SlideFold.class.getMethod(name, types), arguments);
    }

    private boolean begin() throws ReflectiveOperationException {
        boolean alike = true;
        if (random.nextInt(2) == 0) {
            int[] table = TABLES[random.nextInt(TABLES.length)];
            for (int i = 0; i < 16; i++) {
                alike &= answersAlike("table", i, table[i]);
            }
        }
        for (int i = 0; i < 8; i++) {
            alike &= answersAlike("letter", i, random.nextInt(256));
        }
        int common = random.nextInt(10);
        for (int i = 0; i < 4; i++) {
            int operation = random.nextInt(2) == 0 ? common : random.nextInt(10);
            int by = random.nextInt(3);
            alike &= answersAlike("open", i, operation, by, size(by), pick(0, 5, 100, 10000));
        }
        for (int i = 0; i < lanes && random.nextInt(4) != 0; i++) {
            lane = i;
            call = "link";
            alike &= answersAlike("link", i, upTo(3), pick(0, 0, 1, 3, 10), what());
        }
        for (int i = 0; i < 8 && random.nextInt(8) != 0; i++) {
            lane = upTo(lanes - 1);
            call = "watch";
            alike &= answersAlike("watch", i, lane, what(), upTo(8) - 2);
        }
        for (int i = 0; i < 4 && crowded; i++) {
            alike &= answersAlike("burst", i, 40, upTo(2 * span) - span, 0);
            alike &= answersAlike("burst", i, 40, upTo(2 * span) - span, upTo(2) - 1);
            alike &= answersAlike("burst", i, 37 + upTo(3), upTo(2 * span) - span, 0);
        }
        return alike;
    }

    private boolean standsAlike() throws ReflectiveOperationException {
        boolean alike = true;
        for (int i = 0; i < 4; i++) {
            for (int what = 4; what <= 10; what++) {
                alike &= answersAlike("lane", i, what);
            }
            for (int what = 0; what < 7; what++) {
                alike &= answersAlike("state", i, what);
            }
            alike &= answersAlike("total", i, 0);
        }
        return alike;
    }

    // ---- arguments that are mostly such as can be

    private int pick(int... some) {
        return some[random.nextInt(some.length)];
    }

    private int upTo(int most) {
        return most <= 0 ? 0 : random.nextInt(most + 1);
    }

    private int size(int by) {
        return by == 1 ? pick(1, 2, 3, 7, 20, 119, 120) : by == 2 ? pick(1, 2, 10, 40, 300, 10000) : upTo(5);
    }

    private int held() {
        return Math.max(0, model.lane(lane, 4));
    }

    private int[] arguments(Method method) {
        call = method.getName();
        lane = random.nextInt(8) == 0 ? upTo(3) : upTo(lanes - 1);
        Parameter[] parameters = method.getParameters();
        int[] all = new int[parameters.length];
        for (int i = 0; i < all.length; i++) {
            all[i] = argument(parameters[i].getName());
            if (random.nextInt(60) == 0) {
                all[i] = WILD[random.nextInt(WILD.length)];
            }
            if (parameters[i].getName().equals("lane")) {
                lane = all[i];
            }
        }
        if (call.equals("open")) {
            all[3] = random.nextInt(20) == 0 ? all[3] : size(all[2]);
        }
        if (call.equals("part") && all[1] > all[2] && random.nextInt(8) != 0) {
            int from = all[1];
            all[1] = all[2];
            all[2] = from;
        }
        return all;
    }

    private int argument(String name) {
        switch (name) {
            case "lane":
                return lane;
            case "other":
                return upTo(3);
            case "operation":
                return upTo(9);
            case "by":
            case "how":
            case "box":
                return upTo(2);
            case "slack":
                return pick(0, 5, 100, 10000);
            case "time":
                return time();
            case "value":
                return upTo(2 * span) - span;
            case "step":
                return upTo(8) - 4;
            case "many":
                return manyOf();
            case "event":
                return upTo(held() - 1);
            case "from":
            case "to":
                return call.equals("part") ? upTo(held() - 1) : heldTime();
            case "low":
            case "high":
            case "bound":
                return bound();
            case "what":
                return what();
            case "width":
            case "gap":
                return pick(0, 1, 2, 3, 10, 100, 100000);
            case "session":
            case "i":
                return upTo(4);
            case "cell":
                return upTo(15);
            case "element":
            case "k":
                return upTo(call.equals("table") ? 3 : 1);
            case "rows":
                return 1 + upTo(held() > 30 ? 2 : 3);
            case "watch":
            case "letter":
                return upTo(7);
            case "sends":
                return upTo(255);
            default:
                return upTo(5);
        }
    }

    private int what() {
        switch (call) {
            case "lane":
                return upTo(10);
            case "state":
            case "about":
                return upTo(6);
            case "event":
                return upTo(2);
            case "triple":
            case "element":
            case "linked":
                return upTo(3);
            case "cost":
            case "soon":
                return upTo(1);
            default:
                return upTo(Comes.NUMBERS[Math.max(0, model.lane(lane, 0))] - (random.nextInt(10) == 0 ? 0 : 1));
        }
    }

    private int manyOf() {
        switch (call) {
            case "burst":
                return 1 + upTo(pick(2, 8, 39));
            case "leave":
                return upTo(crowded ? 3 : pick(2, 5, held()));
            case "cost":
                return upTo(pick(4, 200));
            default:
                return 1 + upTo(held() - 1);
        }
    }

    private int time() {
        int newest = Math.max(0, model.lane(lane, 5));
        int slack = Math.max(0, model.lane(lane, 3));
        switch (random.nextInt(12)) {
            case 0:
                return newest - slack - upTo(1);
            case 1:
            case 2:
            case 3:
                return newest - upTo(lateness);
            case 4:
                return heldTime();
            default:
                return newest + upTo(rush);
        }
    }

    private int heldTime() {
        int n = held();
        if (n == 0) {
            return upTo(20);
        }
        return model.event(lane, random.nextInt(n), 0) + upTo(2) - 1;
    }

    private int bound() {
        int number = model.total(lane, upTo(3));
        switch (random.nextInt(13)) {
            case 0:
                return BOUNDS[random.nextInt(BOUNDS.length)];
            case 1:
            case 2:
            case 3:
                return upTo(8) - 4;
            case 4:
            case 5:
            case 6:
                return number / 2;
            default:
                return number == Model.NOTHING ? upTo(5) : number + upTo(4) - 2;
        }
    }
}
