import java.util.function.Consumer;
import java.util.function.Supplier;

/** Counts the answers of a test that are not as due, and ends it. */
final class Check {
    private static int asked = 0;
    private static int wrong = 0;

    private Check() {
    }

    static void due(String what, Object want, Object got) {
        asked++;
        if (!want.equals(got)) {
            wrong++;
            System.out.println(what + " answered " + got + ", due is " + want);
        }
    }

    /** A refused call throws just this exception and changes nothing, now or for the minutes to come. */
    static void refused(String what, Class<? extends RuntimeException> want, Supplier<MineHoist> scene,
            Consumer<MineHoist> call) {
        MineHoist untouched = scene.get();
        MineHoist asked = scene.get();
        due(what, want.getSimpleName(), outcome(asked, call));
        due(what + ", the state after it", Snapshot.of(untouched), Snapshot.of(asked));
        passAsFarAsCanBe(untouched);
        passAsFarAsCanBe(asked);
        due(what + ", the state 3 minutes after it", Snapshot.of(untouched), Snapshot.of(asked));
        due(what + ", the settings after it", Snapshot.ofSettings(untouched), Snapshot.ofSettings(asked));
    }

    static String outcome(MineHoist mine, Consumer<MineHoist> call) {
        try {
            call.accept(mine);
            return "nothing thrown";
        } catch (RuntimeException e) {
            return e.getClass().getSimpleName();
        }
    }

    private static void passAsFarAsCanBe(MineHoist mine) {
        int minutes = Math.min(3, 5000 - mine.clock());
        if (minutes > 0) {
            mine.pass(minutes);
        }
    }

    static void end(String test) {
        System.out.println(test + ": " + asked + " answers, " + wrong + " not as due");
        if (wrong != 0 || asked == 0) {
            System.exit(1);
        }
    }
}
