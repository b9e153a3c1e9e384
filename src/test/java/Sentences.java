import java.util.ArrayList;
import java.util.Arrays;
import java.util.List;
import java.util.function.IntConsumer;

/** What the tests of the document's sentences share. Each test starts with a new object. */
abstract class Sentences {
    static final int NONE = Shredroll.NONE;
    static final int RAW = Shredroll.RAW;
    static final int WIPED = Shredroll.WIPED;
    static final int SPOILED = Shredroll.SPOILED;
    static final int BROKEN = Shredroll.BROKEN;

    static final Class<?> INDEX = IndexOutOfBoundsException.class;
    static final Class<?> ARGUMENT = IllegalArgumentException.class;
    static final Class<?> STATE = IllegalStateException.class;
    static final Class<?> NO_ELEMENT = java.util.NoSuchElementException.class;

    static final int KEEPERS = 8;
    static final int CRATES = 10;
    static final int WAYS = 3;
    static final int MOST_DISKS = 60;
    static final int MOST_SEALS = 100;

    static final int[] NO_KEEPERS = rightBeside(0, 7);
    static final int[] NO_CRATES = rightBeside(0, 9);
    static final int[] NO_KINDS = rightBeside(0, 2);
    static final int[] NO_WAYS = rightBeside(0, 2);
    static final int[] NO_SECRECIES = rightBeside(0, 3);
    static final int[] NO_COUNTS = rightBeside(0, 99);

    private Tester tester;
    private String name;
    private Run run;

    final void begin(Tester forAnswers, String ofTest) {
        tester = forAnswers;
        name = ofTest;
        anew();
    }

    // ---- what a test says of its object

    /** Goes on with a new object. */
    final void anew() {
        run = new Run();
    }

    /** Makes ready: whatever it is, there is an answer. */
    final void tell(String call, Object... told) {
        Call made = Call.of(call, told);
        Object answer = run.answerOf(made);
        if (answer instanceof Class) {
            due(made, answer, "an answer");
        }
    }

    final void answers(Object due, String call, Object... told) {
        Call made = Call.of(call, told);
        due(made, run.answerOf(made), due);
    }

    /** Throws exactly that, and leaves everything as it was. */
    final void refuses(Class<?> due, String call, Object... told) {
        Call made = Call.of(call, told);
        due(made, run.answerOf(made), due);
        tester.due(where(made) + ": what it changed", run.changeBy(made), "");
    }

    /** The same as answers(), but of another object that was told the same; this one goes on without it. */
    final void wouldAnswer(Object due, String call, Object... told) {
        Call made = Call.of(call, told);
        due(made, run.answerOfAnother(made), due);
    }

    final void same(String what, Object got, Object want) {
        tester.due(name + ": " + what, got, want);
    }

    final Run run() {
        return run;
    }

    private void due(Call made, Object got, Object want) {
        tester.due(where(made), got, want);
    }

    private String where(Call made) {
        return name + ": call " + run.calls() + ", " + made;
    }

    // ---- what many tests make ready

    /** Spinning disks that are not secret. */
    final void bring(int disks, int keeper) {
        for (int i = 0; i < disks; i++) {
            tell("bring", 0, 0, keeper);
        }
    }

    final void packAll(int disks, int crate) {
        for (int disk = 0; disk < disks; disk++) {
            tell("pack", disk, crate);
        }
    }

    /** A disk with keeper 0 that keeper 0 wiped. */
    final void bringWiped() {
        bring(1, 0);
        tell("wipe", 0, 0, 1);
    }

    /** A disk of each state, in and out of crates, offered, missing, certified, with others; few calls. */
    final void makeBusy() {
        tell("bring", 0, 0, 0);
        tell("bring", 1, 1, 1);
        tell("offer", 1, 2);
        tell("bring", 2, 3, 0);
        tell("wipe", 2, 2, 1);
        tell("pack", 2, 1);
        tell("bring", 0, 2, 0);
        tell("wipe", 3, 0, 4);
        tell("check", 3, 4, true);
        tell("pack", 3, 2);
        tell("bring", 1, 0, 0);
        tell("pack", 4, 2);
        tell("lose", 4);
        tell("seal", 2);
        tell("carry", 2, 3);
        tell("bring", 2, 0, 3);
        tell("smash", 5, 0);
        tell("certify", 3);
        tell("bring", 0, 0, 4);
        tell("wipe", 6, 0, 0);
        tell("offer", 6, 5);
        tell("answer", 6, true);
        tell("bring", 0, 0, 0);
        tell("pack", 7, 1);
        tell("lose", 7);
        tell("seal", 5);
        tell("open", 5, 1);
        tell("carry", 5, 6);
        tell("seal", 5);
    }

    // ---- what many sentences say

    /** For the sentence "`disk`: its number": each brought disk is the one that is meant, the first and the last too. */
    final void takesEachDisk(IntConsumer makeReady, String call, Object... more) {
        for (int brought : new int[] {1, 2, MOST_DISKS}) {
            anew();
            bring(brought, 0);
            for (int disk = 0; disk < brought; disk++) {
                makeReady.accept(disk);
            }
            for (int disk : new int[] {0, brought / 2, brought - 1}) {
                takesDisk(brought, disk, with(disk, call, more));
            }
            refuses(INDEX, call, with(brought, call, more).told().toArray());
            refuses(INDEX, call, with(-1, call, more).told().toArray());
        }
    }

    private void takesDisk(int brought, int disk, Call call) {
        Object answer = run.answerOfAnother(call);
        due(call, answer instanceof Class ? answer : "an answer", "an answer");
        for (int other = 0; other < brought; other++) {
            if (other != disk && (other < 3 || other > brought - 3 || Math.abs(other - disk) == 1)) {
                same("disk " + other + " after " + call, run.pictureOf(other, call), run.pictureOf(other));
            }
        }
    }

    /** For the words "if there is no such disk": without disks, with some, and with all that can be. */
    final void refusesNoDisk(String call, Object... more) {
        for (int brought : new int[] {0, 1, 2, MOST_DISKS - 1, MOST_DISKS}) {
            anew();
            bring(brought, 0);
            for (int disk : rightBeside(0, brought - 1)) {
                refuses(INDEX, call, with(disk, call, more).told().toArray());
            }
            if (brought < MOST_DISKS) {
                refuses(INDEX, call, with(MOST_DISKS - 1, call, more).told().toArray());
            }
        }
    }

    /** For the words "if there is no such crate", where the crate is told first. */
    final void refusesNoCrate(String call, Object... more) {
        for (int crate : NO_CRATES) {
            refuses(INDEX, call, with(crate, call, more).told().toArray());
        }
    }

    private static Call with(int first, String call, Object... more) {
        List<Object> told = new ArrayList<>(List.of(first));
        told.addAll(Arrays.asList(more));
        return Call.of(call, told.toArray());
    }

    /** The values right beside those from the least to the greatest, and the farthest. */
    private static int[] rightBeside(int least, int greatest) {
        return new int[] {least - 1, greatest + 1, greatest + 2, Integer.MIN_VALUE, Integer.MAX_VALUE};
    }
}
