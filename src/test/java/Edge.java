import java.util.Arrays;
import java.util.EnumMap;
import java.util.List;
import java.util.TreeMap;

/**
 * Holds the class to single sentences of the document: each test names its promise and the words
 * that it is about, and a wrong answer is told with both.
 */
final class Edge {
    /** Calls on a new object. */
    interface Calls {
        void on(SeamFire x);
    }

    /** One call and its answer; true counts 1, false 0. */
    interface Answer {
        long of(SeamFire x);
    }

    static final int MIN = Integer.MIN_VALUE;
    static final int MAX = Integer.MAX_VALUE;
    private static final int TOLD_AT_MOST = 60;

    private final TreeMap<Integer, Integer> sentences = new TreeMap<>();
    private final EnumMap<World, long[]> looks = new EnumMap<>(World.class);
    private int promise;
    private String words = "";
    private int asked;
    private int wrong;

    /** What is asked from now on is due by these words of a promise, or of the terms it uses. */
    void sentence(int ofPromise, String ofTheDocument) {
        promise = ofPromise;
        words = ofTheDocument;
        sentences.merge(ofPromise, 1, Integer::sum);
    }

    void is(String call, long want, long got) {
        asked++;
        if (want != got) {
            tell(call + " answered " + got + ", due is " + want);
        }
    }

    void yes(String call, boolean got) {
        is(call, 1, got ? 1 : 0);
    }

    void no(String call, boolean got) {
        is(call, 0, got ? 1 : 0);
    }

    /** Asks many at once, by the same call. */
    void are(String call, int[] want, int[] got) {
        asked++;
        if (!Arrays.equals(want, got)) {
            tell(call + " answered " + Arrays.toString(got) + ", due are " + Arrays.toString(want));
        }
    }

    /** The call is refused in every world that is named, and all else answers as without it. */
    void refused(String call, long want, Answer answer, World... worlds) {
        for (World world : worlds) {
            String told = call + " in " + world;
            asksTwice(world.w, world.h, world::make, told, want, answer);
            same(others(told), lookAt(world), Look.at(world.w, world.h, behind(world::make, answer)));
        }
    }

    /** The call is refused in every world. */
    void refusedAlways(String call, long want, Answer answer) {
        refused(call, want, answer, World.values());
    }

    /** The call is refused behind these calls, and all else answers as without it. */
    void refusedAfter(int w, int h, Calls before, String call, long want, Answer answer) {
        asksTwice(w, h, before, call, want, answer);
        changesNothing(w, h, before, call, answer);
    }

    private void asksTwice(int w, int h, Calls before, String call, long want, Answer answer) {
        SeamFire x = new SeamFire(w, h);
        before.on(x);
        is(call, want, answer.of(x));
        is(call + " again", want, answer.of(x));
    }

    /** The call asks alone: in every world all else answers as without it. */
    void asksAlone(String call, Answer answer) {
        for (World world : World.values()) {
            same(others(call + " in " + world), lookAt(world),
                    Look.at(world.w, world.h, behind(world::make, answer)));
        }
    }

    private long[] lookAt(World world) {
        return looks.computeIfAbsent(world, o -> Look.at(o.w, o.h, o::make));
    }

    /** All else answers as without the call, whatever it answers itself. */
    void changesNothing(int w, int h, Calls before, String call, Answer answer) {
        same(others(call), Look.at(w, h, before), Look.at(w, h, behind(before, answer)));
    }

    private static String others(String call) {
        return "what others answer behind " + call;
    }

    private static Calls behind(Calls before, Answer answer) {
        return x -> {
            before.on(x);
            answer.of(x);
        };
    }

    /** Two looks are alike. */
    void same(String what, long[] want, long[] got) {
        asked++;
        List<String> differences = Look.differences(want, got);
        if (!differences.isEmpty()) {
            tell(what + ": " + String.join("; ", differences));
        }
    }

    private void tell(String what) {
        wrong++;
        if (wrong <= TOLD_AT_MOST) {
            System.out.println("promise " + promise + ", \"" + words + "\": " + what);
        }
    }

    /** Prints what came of it, and ends the run with 1 if an answer was wrong or a promise has no test. */
    void end(int from, int to) {
        for (int p = from; p <= to; p++) {
            if (!sentences.containsKey(p)) {
                System.out.println("promise " + p + " has no test");
                wrong++;
            }
        }
        int all = sentences.values().stream().mapToInt(Integer::intValue).sum();
        System.out.println("PromisesTest: " + all + " sentences, " + asked + " answers, " + wrong + " wrong");
        if (wrong != 0) {
            System.exit(1);
        }
    }

    /** Lets weeks go by until the clock is there. */
    static void until(SeamFire x, int clock) {
        for (int i = 0; i < 100 && x.about(0) < clock; i++) {
            x.weeks(Math.min(20, clock - x.about(0)));
        }
    }

    /** All cells of one kind. */
    static SeamFire seam(int w, int h, int kind, int tons) {
        SeamFire x = new SeamFire(w, h);
        for (int c = 0; c < w * h; c++) {
            x.cell(c, kind, tons);
        }
        return x;
    }

    /**
     * A seam told by signs, a row each: c coal of the tons, p pillar of the tons, o room, w water,
     * and all others rock.
     */
    static SeamFire drawn(int tons, String... rows) {
        int w = rows[0].length();
        SeamFire x = new SeamFire(w, rows.length);
        for (int c = 0; c < w * rows.length; c++) {
            int kind = Math.max(0, ".cpow".indexOf(rows[c / w].charAt(c % w)));
            x.cell(c, kind, kind == 1 || kind == 2 ? tons : 0);
        }
        return x;
    }
}
