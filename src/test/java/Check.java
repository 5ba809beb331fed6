import java.util.Map;
import java.util.function.Consumer;
import java.util.function.Supplier;

/** Counts the answers of a test that are not as due, and ends it. */
final class Check {
    private static int asked = 0;
    private static int wrong = 0;

    private Check() {
    }

    static void due(String what, Object want, Object got) {
        asked++;
        if (!want.equals(got)) {
            wrong++;
            System.out.println(what + " answered " + got + ", due is " + want);
        }
    }

    static void taken(String what, MineHoist mine, Consumer<MineHoist> call) {
        due(what, "nothing thrown", outcome(mine, call));
    }

    /** Each fact of the one mine is a fact of the other one, too. */
    static void same(String what, Map<String, String> want, Map<String, String> got) {
        due(what, "", Snapshot.difference(want, got));
    }

    /** A refused call throws just this exception and changes nothing, now or for the minutes to come. */
    static void refused(String what, Class<? extends RuntimeException> want, Supplier<MineHoist> scene,
            Consumer<MineHoist> call) {
        MineHoist asked = scene.get();
        due(what, want.getSimpleName(), outcome(asked, call));
        unchanged(what, scene.get(), asked);
    }

    /** A call that just tells something changes nothing, now or for the minutes to come. */
    static void onlyTells(String what, Supplier<MineHoist> scene, Consumer<MineHoist> call) {
        MineHoist asked = scene.get();
        taken(what, asked, call);
        unchanged(what, scene.get(), asked);
    }

    private static void unchanged(String what, MineHoist untouched, MineHoist asked) {
        same(what + ", what it changes", Snapshot.facts(untouched), Snapshot.facts(asked));
        // What a blast has changed can be seen for 30 minutes, and some of it only when they are over.
        for (int minutes : new int[] {3, 28}) {
            if (untouched.clock() + minutes <= 5000) {
                untouched.pass(minutes);
                asked.pass(minutes);
                same(what + ", what it changes in the minutes after it", Snapshot.facts(untouched),
                        Snapshot.facts(asked));
            }
        }
        same(what + ", the settings it changes", Snapshot.settings(untouched), Snapshot.settings(asked));
    }

    static String outcome(MineHoist mine, Consumer<MineHoist> call) {
        try {
            call.accept(mine);
            return "nothing thrown";
        } catch (RuntimeException e) {
            return isOfTheProgram(e) ? e.getClass().getSimpleName() : "thrown by the machine: " + e;
        }
    }

    /** A division by zero throws in the program too, but the machine throws it. */
    private static boolean isOfTheProgram(RuntimeException e) {
        StackTraceElement[] trace = e.getStackTrace();
        boolean isFromThere = trace.length > 0 && trace[0].getClassName().startsWith("MineHoist");
        return isFromThere && !"/ by zero".equals(e.getMessage());
    }

    static void end(String test) {
        System.out.println(test + ": " + asked + " answers, " + wrong + " not as due");
        if (wrong != 0 || asked == 0) {
            System.exit(1);
        }
    }
}
