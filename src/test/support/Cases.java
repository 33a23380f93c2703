import java.util.HashMap;
import java.util.Map;

/**
 * Cases by name, each on objects of its own. A scene is a row of calls on a new object, so that it can be made as
 * often as a case wants, and no object is used for more than the 512 calls that the document allows.
 */
final class Cases {
    static final int BAD = -1, STATE = -2, FULL = -3, NONE = -9;
    static final int LOW = Integer.MIN_VALUE, HIGH = Integer.MAX_VALUE;

    private static final Map<Call[], String> LOOKS = new HashMap<>();
    private static int cases = 0;
    private static int wrong = 0;

    private Cases() {
    }

    interface Call {
        int on(CarriedOrders c);
    }

    interface CallWith {
        int on(CarriedOrders c, int v);
    }

    static Call[] scene(Call... calls) {
        return calls;
    }

    static Call[] then(Call[] scene, Call... more) {
        Call[] longer = java.util.Arrays.copyOf(scene, scene.length + more.length);
        System.arraycopy(more, 0, longer, scene.length, more.length);
        return longer;
    }

    static Call[] times(int n, Call call) {
        Call[] calls = new Call[n];
        java.util.Arrays.fill(calls, call);
        return calls;
    }

    static CarriedOrders made(Call[] scene) {
        CarriedOrders c = new CarriedOrders();
        for (Call call : scene) {
            call.on(c);
        }
        return c;
    }

    private static void tell(String name, String fault) {
        wrong++;
        System.out.println("WRONG " + name + ": " + fault);
    }

    /** That call answers so in that scene. */
    static void due(String name, Call[] scene, Call call, int want) {
        cases++;
        int got = call.on(made(scene));
        if (got != want) {
            tell(name, "answered " + got + ", due is " + want);
        }
    }

    /** Each call of the scene answers so: what a scene rests on. */
    static void steps(String name, Call[] scene, int... want) {
        cases++;
        CarriedOrders c = new CarriedOrders();
        for (int i = 0; i < scene.length; i++) {
            int got = scene[i].on(c);
            if (got != want[i]) {
                tell(name, "call " + i + " answered " + got + ", due is " + want[i]);
            }
        }
        if (scene.length != want.length) {
            tell(name, "has " + scene.length + " calls and " + want.length + " answers");
        }
    }

    /** That call answers so, and leaves all that can be asked, undone and brought back as it was. */
    static void leaves(String name, Call[] scene, Call call, int want) {
        due(name, scene, call, want);
        compareAll(name, scene, call);
    }

    /** That call, whatever it answers, leaves all that can be asked, undone and brought back as it was. */
    static void changesNothing(String name, Call[] scene, Call call) {
        cases++;
        compareAll(name, scene, call);
    }

    private static void compareAll(String name, Call[] scene, Call call) {
        String fault = difference(LOOKS.computeIfAbsent(scene, Cases::all), all(then(scene, call)));
        if (fault != null) {
            tell(name, "changed something: " + fault);
        }
    }

    /** All that part 1 of the terms tells is the same in both scenes. */
    static void same(String name, Call[] one, Call[] other) {
        cases++;
        String fault = difference(new Look(one).world(), new Look(other).world());
        if (fault != null) {
            tell(name, fault);
        }
    }

    /** As same(), and what was seen, what can be undone and the images are the same too. */
    static void sameInAll(String name, Call[] one, Call[] other) {
        cases++;
        String fault = difference(all(one), all(other));
        if (fault != null) {
            tell(name, fault);
        }
    }

    private static String difference(String was, String is) {
        String[] before = was.split("\n");
        String[] after = is.split("\n");
        for (int i = 0; i < Math.max(before.length, after.length); i++) {
            String b = i < before.length ? before[i] : "nothing";
            String a = i < after.length ? after[i] : "nothing";
            if (!b.equals(a)) {
                return "was " + b + ", is " + a;
            }
        }
        return null;
    }

    /** The scene as it is, as it is after each undo() that there may be, and as the images have it. */
    private static String all(Call[] scene) {
        StringBuilder text = new StringBuilder(new Look(scene).all());
        int undoable = made(scene).count(9);
        Call[] undone = scene;
        for (int i = 1; i <= undoable; i++) {
            undone = then(undone, CarriedOrders::undo);
            text.append("undone ").append(i).append('\n').append(new Look(undone).all());
        }
        for (int image = 0; image < 2; image++) {
            int which = image;
            int answer = made(scene).back(which);
            text.append("back(").append(which).append(") ").append(answer).append('\n');
            if (answer >= 0) {
                text.append(new Look(then(scene, c -> c.back(which))).all());
            }
        }
        return text.toString();
    }

    static void end(String what) {
        System.out.println(what + ": " + cases + " cases, " + wrong + " answers are not as due");
        if (wrong != 0) {
            System.exit(1);
        }
    }

    /** Asks all that can be asked of a scene, and makes its object anew when it has been called 512 times. */
    private static final class Look {
        private static final int MOST_CALLS = 512;

        private final Call[] scene;
        private final StringBuilder text = new StringBuilder();
        private CarriedOrders c;
        private int calls;

        Look(Call[] scene) {
            this.scene = scene;
            renew();
        }

        private void renew() {
            c = made(scene);
            calls = scene.length;
        }

        private int ask(String what, Call call) {
            if (calls >= MOST_CALLS) {
                renew();
            }
            calls++;
            int answer = call.on(c);
            text.append(what).append(' ').append(answer).append('\n');
            return answer;
        }

        String world() {
            for (int what = 0; what < 8; what++) {
                int w = what;
                ask("count(" + w + ")", o -> o.count(w));
            }
            int n = ask("count(0)", o -> o.count(0));
            for (int q = 0; q < n; q++) {
                site(q);
                for (int x = 0; x <= n; x++) {
                    if (x != q) {
                        way(x, q);
                    }
                }
            }
            return text.toString();
        }

        private void site(int q) {
            for (int what = 0; what < 5; what++) {
                int w = what;
                ask("site(" + q + ", " + w + ")", o -> o.site(q, w));
            }
            for (int code = 0; code < 32; code++) {
                int k = code;
                ask("knows(" + q + ", " + k + ")", o -> o.knows(q, k));
            }
            int receipts = ask("site(" + q + ", 1)", o -> o.site(q, 1));
            for (int r = 0; r < receipts; r++) {
                receipt(q, r);
            }
        }

        private void receipt(int q, int r) {
            String name = "(" + q + ", " + r + ", ";
            for (int what = 0; what < 6; what++) {
                int w = what;
                ask("receipt" + name + w + ")", o -> o.receipt(q, r, w));
            }
            int more = 0;
            for (int i = 0; i < 33 && more >= 0; i++) {
                int at = i;
                more = ask("past" + name + at + ")", o -> o.past(q, r, at));
            }
        }

        private void way(int x, int y) {
            int there = 0;
            for (int k = 0; k < 9 && there != NONE; k++) {
                int number = k;
                String name = "(" + x + ", " + y + ", " + k + ", ";
                there = ask("letter" + name + "0)", o -> o.letter(x, y, number, 0));
                for (int what = 1; what < 4; what++) {
                    int w = what;
                    ask("letter" + name + w + ")", o -> o.letter(x, y, number, w));
                }
                int more = 0;
                for (int i = 0; i < 33 && more >= 0; i++) {
                    int at = i;
                    more = ask("carries" + name + at + ")", o -> o.carries(x, y, number, at));
                }
            }
        }

        String all() {
            world();
            int n = ask("count(0)", o -> o.count(0));
            for (int set = 0; set < 1 << n; set++) {
                int s = set;
                ask("risk(" + s + ", 0)", o -> o.risk(s, 0));
                ask("risk(" + s + ", 1)", o -> o.risk(s, 1));
            }
            for (int k = 0; k < 5; k++) {
                int many = k;
                ask("worst(" + many + ")", o -> o.worst(many));
            }
            ask("count(8)", o -> o.count(8));
            ask("count(9)", o -> o.count(9));
            ask("which(0)", o -> o.which(0));
            ask("which(1)", o -> o.which(1));
            ask("ask()", o -> o.ask());
            return text.toString();
        }
    }
}
