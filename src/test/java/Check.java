import java.util.function.IntFunction;

/** Compares answers with those that are due, and ends a test with exit code 1 if one was wrong. */
final class Check {
    private int wrong = 0;
    private String sentence = "";

    /** Names the promise or the term, and its sentence, that the checks from here on are about. */
    void sentence(String named) {
        sentence = named + "\n    ";
    }

    void same(String what, Object got, Object due) {
        if (!due.equals(got)) {
            report(what + " answered " + got + ", due is " + due);
        }
    }

    /** The call on a new ledger of the scene. */
    void answers(String what, Scene scene, Scene.Call call, Object due) {
        same(what, Snapshot.answer(scene.make(), call), due);
    }

    /** The call must throw exactly this exception, and all that can be asked must be as if it had not been made. */
    void refuses(String what, Scene scene, Class<? extends RuntimeException> due, Scene.Call call) {
        for (Snapshot.Part part : Snapshot.PARTS) {
            TimerLedger refusing = scene.make();
            if (!isRefused(what, refusing, due, call)) {
                return;
            }
            same(what + ": what can be asked behind it", part.of(refusing), part.of(scene.make()));
        }
    }

    private boolean isRefused(String what, TimerLedger ledger, Class<? extends RuntimeException> due, Scene.Call call) {
        try {
            report(what + " answered " + call.on(ledger) + ", due is " + due.getName());
            return false;
        } catch (RuntimeException thrown) {
            if (thrown.getClass() != due) {
                report(what + " threw " + thrown.getClass().getName() + ", due is " + due.getName());
                return false;
            }
            if (!isThrownByTheClass(thrown)) {
                report(what + " left the throwing to the machine or the library");
                return false;
            }
            return true;
        }
    }

    /** An index that the class did not look at would be refused by an array or a list, with a trace that begins there. */
    static boolean isThrownByTheClass(Throwable thrown) {
        StackTraceElement[] trace = thrown.getStackTrace();
        return trace.length > 0 && trace[0].getClassName().startsWith("TimerLedger");
    }

    void refusesIndex(String what, Scene scene, Scene.Call call) {
        refuses(what, scene, IndexOutOfBoundsException.class, call);
    }

    void refusesArgument(String what, Scene scene, Scene.Call call) {
        refuses(what, scene, IllegalArgumentException.class, call);
    }

    void refusesState(String what, Scene scene, Scene.Call call) {
        refuses(what, scene, IllegalStateException.class, call);
    }

    /** Of things numbered from 0 to one less than there are, the first and the last answer, and the numbers beside them are refused. */
    void numbers(String what, IntFunction<Scene> sceneOf, int most, Scene.NumberedCall call, IntFunction<Object> due) {
        refusesIndex(what + " 0 of none", sceneOf.apply(0), x -> call.on(x, 0));
        for (int there : new int[] {1, most}) {
            Scene scene = sceneOf.apply(there);
            for (int inside : new int[] {0, there - 1}) {
                answers(what + " " + inside + " of " + there, scene, x -> call.on(x, inside), due.apply(inside));
            }
            for (int outside : new int[] {-1, there, Integer.MIN_VALUE, Integer.MAX_VALUE}) {
                refusesIndex(what + " " + outside + " of " + there, scene, x -> call.on(x, outside));
            }
        }
    }

    /** The least and the greatest allowed number answer, and those beside them and far from them are wrong arguments. */
    void range(String what, Scene scene, int least, int greatest, Scene.NumberedCall call, IntFunction<Object> due) {
        for (int inside : new int[] {least, greatest}) {
            answers(what + " " + inside, scene, x -> call.on(x, inside), due.apply(inside));
        }
        for (int outside : new int[] {least - 1, greatest + 1, Integer.MIN_VALUE, Integer.MAX_VALUE}) {
            refusesArgument(what + " " + outside, scene, x -> call.on(x, outside));
        }
    }

    /** Each of the letters answers, and every other sign is a wrong argument. */
    void letters(String what, Scene scene, String allowed, Scene.NumberedCall call, IntFunction<Object> due) {
        for (int sign = 0; sign < 256; sign++) {
            int number = sign;
            Object wanted = allowed.indexOf(sign) >= 0 ? due.apply(sign) : IllegalArgumentException.class;
            answers(what + " " + (char) sign, scene, x -> call.on(x, number), wanted);
        }
        for (int i = 0; i < allowed.length(); i++) {
            int letter = allowed.charAt(i);
            for (int near : new int[] {letter - 32, letter + 256, 65535}) {
                refusesArgument(what + " number " + near, scene, x -> call.on(x, near));
            }
        }
    }

    void report(String text) {
        wrong++;
        System.out.println(sentence + text);
    }

    void end() {
        System.out.println(wrong == 0 ? "all answers are as due" : wrong + " answers are not as due");
        if (wrong != 0) {
            System.exit(1);
        }
    }
}
