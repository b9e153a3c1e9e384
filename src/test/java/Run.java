import java.util.ArrayList;
import java.util.List;

/**
 * A run of calls on one object. All that can be asked after it is asked of other objects that were
 * told the same, as an object is made for 512 calls alone.
 */
final class Run {
    static final int MOST_CALLS = 512;

    private static final int KEEPERS = 8;
    private static final int CRATES = 10;

    private final Shredroll roll = new Shredroll();
    private final List<Call> told = new ArrayList<>();
    private int calls;
    private int disks;

    private List<Object> sightBefore;
    private int toldAtSight = -1;

    Object answerOf(Call call) {
        if (calls == MOST_CALLS) {
            throw new IllegalStateException("the test makes more than " + MOST_CALLS + " calls on one object");
        }
        calls++;
        Object answer = call.answerOf(roll);
        if (call.isTelling() && !(answer instanceof Class)) {
            told.add(call);
            disks += call.name().equals("bring") ? 1 : 0;
        }
        return answer;
    }

    int calls() {
        return calls;
    }

    /** What another object that was told the same answers. */
    Object answerOfAnother(Call call) {
        return answersAfter(told, List.of(call), 1).get(0);
    }

    /** The answers to all that can be asked, in the order of asks(). */
    List<Object> picture() {
        return answersAfter(told, asks(disks), MOST_CALLS);
    }

    /** What is asked of one disk, after these more calls. */
    List<Object> pictureOf(int disk, Call... more) {
        List<Call> made = new ArrayList<>(told);
        made.addAll(List.of(more));
        return answersAfter(made, asksOf(disk), MOST_CALLS);
    }

    /** What is answered to each thing that can be asked or done next, on an object of its own. */
    List<Object> eachAlone(boolean allWasAskedBefore) {
        List<Call> made = new ArrayList<>(told);
        if (allWasAskedBefore) {
            made.addAll(asks(disks));
        }
        return answersAfter(made, askedAndDone(), made.size() + 1);
    }

    private List<Call> askedAndDone() {
        List<Call> calls = asks(disks + 1);
        calls.addAll(probes(disks));
        return calls;
    }

    List<Object> sight() {
        return sight(told);
    }

    /** What is told of it, if anything is answered otherwise after this call that was refused; else nothing. */
    String changeBy(Call refused) {
        if (toldAtSight != told.size()) {
            sightBefore = sight(told);
            toldAtSight = told.size();
        }
        List<Call> also = new ArrayList<>(told);
        also.add(refused);
        List<Object> sightAfter = sight(also);
        List<Call> seen = askedAndDone();
        for (int i = 0; i < sightBefore.size() && i < sightAfter.size(); i++) {
            if (!sightBefore.get(i).equals(sightAfter.get(i))) {
                return seen.get(i) + " then " + Tester.text(sightAfter.get(i)) + ", before " + Tester.text(sightBefore.get(i));
            }
        }
        return "";
    }

    /** What is answered to each thing that can be asked or done next, in the order of askedAndDone(). */
    private List<Object> sight(List<Call> made) {
        List<Object> answers = answersAfter(made, asks(disks + 1), MOST_CALLS);
        answers.addAll(answersAfter(made, probes(disks), made.size() + 1));
        return answers;
    }

    /** A new object takes over when one had as many calls as are allowed. */
    private static List<Object> answersAfter(List<Call> made, List<Call> asked, int mostCalls) {
        if (made.size() >= MOST_CALLS) {
            throw new IllegalStateException("nothing can be asked after the last call");
        }
        List<Object> answers = new ArrayList<>();
        Shredroll object = null;
        int calls = 0;
        for (Call ask : asked) {
            if (object == null || calls >= mostCalls) {
                object = new Shredroll();
                for (Call call : made) {
                    call.answerOf(object);
                }
                calls = made.size();
            }
            answers.add(ask.answerOf(object));
            calls++;
        }
        return answers;
    }

    static List<Call> asks(int disks) {
        List<Call> asks = new ArrayList<>();
        for (String name : List.of("disks", "missing", "oddCounts", "logged", "certificates")) {
            asks.add(Call.of(name));
        }
        for (int keeper = 0; keeper < KEEPERS; keeper++) {
            asks.add(Call.of("has", keeper));
        }
        for (int crate = 0; crate < CRATES; crate++) {
            asks.add(Call.of("crateKeeper", crate));
            asks.add(Call.of("sealOf", crate));
        }
        for (int disk = 0; disk < disks; disk++) {
            asks.addAll(asksOf(disk));
        }
        return asks;
    }

    static List<Call> asksOf(int disk) {
        List<Call> asks = new ArrayList<>();
        for (String name : List.of("keeperOf", "keeperByLog", "crateOf", "stateOf", "isDone", "offeredTo", "certificateOf")) {
            asks.add(Call.of(name, disk));
        }
        return asks;
    }

    /** Calls whose answers tell what can't be asked: kinds, doers, what seals remember, and the next numbers. */
    private static List<Call> probes(int disks) {
        List<Call> probes = new ArrayList<>(List.of(Call.of("bring", 0, 0, 0)));
        for (int keeper = 0; keeper < KEEPERS; keeper++) {
            probes.add(Call.of("certify", keeper));
        }
        for (int crate = 0; crate < CRATES; crate++) {
            probes.add(Call.of("seal", crate));
            probes.add(Call.of("open", crate, 0));
        }
        for (int disk = 0; disk < disks; disk++) {
            // Of many disks, a few stand for the others.
            if (disk < 8 || disk == disks - 1) {
                probes.addAll(probesOf(disk));
            }
        }
        return probes;
    }

    private static List<Call> probesOf(int disk) {
        List<Call> probes = new ArrayList<>();
        probes.add(Call.of("find", disk));
        probes.add(Call.of("answer", disk, true));
        probes.add(Call.of("unpack", disk));
        probes.add(Call.of("pack", disk, 0));
        for (int way = 0; way < 3; way++) {
            probes.add(Call.of("wipe", disk, way, 0));
            probes.add(Call.of("wipe", disk, way, 1));
        }
        for (int keeper = 0; keeper < KEEPERS; keeper++) {
            probes.add(Call.of("check", disk, keeper, true));
        }
        return probes;
    }
}
