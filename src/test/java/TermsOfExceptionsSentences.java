import java.util.ArrayList;
import java.util.List;

/** "Terms": what a call that throws an exception leaves as it was, and which exception comes first. */
final class TermsOfExceptionsSentences extends Sentences {

    @Says("Terms: A call that throws an exception changes nothing.")
    void termsARefusedCallChangesNothing() {
        makeBusy();
        int refused = 0;
        for (Call call : callsOfAllArguments()) {
            if (run().answerOfAnother(call) instanceof Class) {
                same(call + ": what it changed", run().changeBy(call), "");
                refused++;
            }
        }
        same("most of these calls were refused", refused > 500, true);
    }

    /** Each telling call with the values that are there, and those right beside them. */
    private static List<Call> callsOfAllArguments() {
        List<Call> calls = new ArrayList<>();
        for (int keeper = -1; keeper <= 8; keeper++) {
            calls.add(Call.of("certify", keeper));
            for (int crate = -1; crate <= 10; crate++) {
                calls.add(Call.of("carry", crate, keeper));
            }
            for (int disk = -1; disk <= 8; disk++) {
                calls.add(Call.of("offer", disk, keeper));
                calls.add(Call.of("smash", disk, keeper));
                calls.add(Call.of("check", disk, keeper, true));
                calls.add(Call.of("check", disk, keeper, false));
            }
        }
        for (int disk = -1; disk <= 8; disk++) {
            for (String name : List.of("unpack", "lose", "find")) {
                calls.add(Call.of(name, disk));
            }
            calls.add(Call.of("answer", disk, true));
            calls.add(Call.of("answer", disk, false));
            for (int crate = -1; crate <= 10; crate++) {
                calls.add(Call.of("pack", disk, crate));
            }
            for (int way = -1; way <= 3; way++) {
                for (int witness : new int[] {-1, 0, 1, 3, 5, 7, 8}) {
                    calls.add(Call.of("wipe", disk, way, witness));
                }
            }
        }
        for (int crate = -1; crate <= 10; crate++) {
            calls.add(Call.of("seal", crate));
            for (int counted : new int[] {-1, 0, 1, 2, 99, 100}) {
                calls.add(Call.of("open", crate, counted));
            }
        }
        for (int keeper : new int[] {-1, 0, 7, 8}) {
            for (int secrecy : new int[] {-1, 0, 3, 4}) {
                for (int kind : new int[] {-1, 0, 2, 3}) {
                    calls.add(Call.of("bring", kind, secrecy, keeper));
                }
            }
        }
        return calls;
    }

    private static final String FIRST = "Terms: If several apply, the one that the throws clause names first is thrown.";

    @Says(FIRST)
    void termsFirstNamedOfBring() {
        for (int keeper : NO_KEEPERS) {
            refuses(INDEX, "bring", 3, 0, keeper);
            refuses(INDEX, "bring", 0, 4, keeper);
            refuses(INDEX, "bring", -1, -1, keeper);
        }
        bring(MOST_DISKS, 0);
        refuses(INDEX, "bring", 0, 0, 8);
        refuses(INDEX, "bring", 3, 4, -1);
        refuses(ARGUMENT, "bring", 3, 0, 0);
        refuses(ARGUMENT, "bring", 0, 4, 0);
        refuses(ARGUMENT, "bring", -1, -1, 0);
    }

    @Says(FIRST)
    void termsFirstNamedOfOffer() {
        for (String trouble : List.of("missing", "offered", "packed", "sealed")) {
            makeTrouble(trouble);
            refuses(INDEX, "offer", 0, -1);
            refuses(INDEX, "offer", 0, 8);
            refuses(ARGUMENT, "offer", 0, 0);
        }
        refuses(INDEX, "offer", 1, 8);
    }

    @Says(FIRST)
    void termsFirstNamedOfPack() {
        for (String trouble : List.of("missing", "offered", "packed", "sealed")) {
            makeTrouble(trouble);
            refuses(INDEX, "pack", 0, -1);
            refuses(INDEX, "pack", 0, 10);
        }
        refuses(INDEX, "pack", 1, 0);
        refuses(INDEX, "pack", 1, 10);
    }

    @Says(FIRST)
    void termsFirstNamedOfSeal() {
        for (int seal = 0; seal < MOST_SEALS; seal++) {
            tell("seal", 0);
            tell("open", 0, 0);
        }
        refuses(INDEX, "seal", -1);
        refuses(INDEX, "seal", 10);
    }

    @Says(FIRST)
    void termsFirstNamedOfOpen() {
        for (int counted : NO_COUNTS) {
            refuses(INDEX, "open", -1, counted);
            refuses(INDEX, "open", 10, counted);
            refuses(ARGUMENT, "open", 0, counted);
        }
    }

    @Says(FIRST)
    void termsFirstNamedOfCarry() {
        bring(1, 0);
        tell("pack", 0, 0);
        refuses(INDEX, "carry", 0, -1);
        refuses(INDEX, "carry", 0, 8);
        refuses(ARGUMENT, "carry", 0, 0);
        refuses(INDEX, "carry", 10, 8);
    }

    @Says(FIRST)
    void termsFirstNamedOfWipe() {
        for (String trouble : List.of("none", "missing", "offered", "sealed", "wiped", "broken")) {
            makeTrouble(trouble);
            refuses(INDEX, "wipe", 0, 0, -1);
            refuses(INDEX, "wipe", 0, 0, 8);
            refuses(INDEX, "wipe", 0, 3, 8);
            refuses(INDEX, "wipe", 1, 3, 0);
            refuses(ARGUMENT, "wipe", 0, -1, 1);
            refuses(ARGUMENT, "wipe", 0, 3, 1);
            refuses(ARGUMENT, "wipe", 0, 0, 0);
            refuses(ARGUMENT, "wipe", 0, 3, 0);
        }
    }

    @Says(FIRST)
    void termsFirstNamedOfSmash() {
        for (String trouble : List.of("missing", "offered", "sealed", "broken")) {
            makeTrouble(trouble);
            refuses(INDEX, "smash", 0, -1);
            refuses(INDEX, "smash", 0, 8);
            refuses(ARGUMENT, "smash", 0, 0);
        }
    }

    @Says(FIRST)
    void termsFirstNamedOfCheckOfAWipedDisk() {
        for (String trouble : List.of("wiped", "wiped and missing", "wiped and offered", "wiped and sealed")) {
            makeTrouble(trouble);
            refuses(INDEX, "check", 0, -1, true);
            refuses(INDEX, "check", 0, 8, false);
            refuses(ARGUMENT, "check", 0, 0, true);
            refuses(ARGUMENT, "check", 0, 0, false);
        }
    }

    @Says(FIRST)
    void termsFirstNamedOfCheckOfAnotherDisk() {
        for (String trouble : List.of("none", "missing", "offered", "sealed", "broken", "wiped and broken")) {
            makeTrouble(trouble);
            refuses(INDEX, "check", 0, -1, true);
            refuses(INDEX, "check", 0, 8, false);
            refuses(STATE, "check", 0, 0, true);
            refuses(STATE, "check", 0, 0, false);
        }
    }

    @Says(FIRST)
    void termsFirstNamedOfCertify() {
        refuses(INDEX, "certify", -1);
        refuses(INDEX, "certify", 8);
        refuses(NO_ELEMENT, "certify", 0);
    }

    /** A new object's disk 0, with keeper 0, of which that can be said. */
    private void makeTrouble(String trouble) {
        anew();
        bring(1, 0);
        for (String what : trouble.split(" and ")) {
            switch (what) {
                case "missing" -> tell("lose", 0);
                case "offered" -> tell("offer", 0, 1);
                case "packed" -> tell("pack", 0, 0);
                case "sealed" -> {
                    tell("pack", 0, 0);
                    tell("seal", 0);
                }
                case "wiped" -> tell("wipe", 0, 0, 1);
                case "broken" -> tell("smash", 0, 1);
                default -> { }
            }
        }
    }
}
