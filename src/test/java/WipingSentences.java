/** Promises 10 to 12: wiping. */
final class WipingSentences extends Sentences {

    // ---- promise 10: wipe

    @Says("Promise 10: Wipes a disk; the doer is its keeper.")
    void promise10WipesADisk() {
        bring(2, 0);
        tell("wipe", 0, 0, 1);
        answers(WIPED, "stateOf", 0);
        answers(RAW, "stateOf", 1);
        answers(false, "isDone", 0);
        answers(0, "keeperOf", 0);
        answers(2, "logged");
    }

    @Says("Promise 10: Wipes a disk; the doer is its keeper.")
    void promise10TheDoerIsItsKeeper() {
        for (int keeper = 0; keeper < KEEPERS; keeper++) {
            anew();
            bring(1, keeper);
            tell("wipe", 0, 0, (keeper + 3) % KEEPERS);
            refuses(ARGUMENT, "check", 0, keeper, true);
        }
    }

    @Says("Promise 10: - `disk`: its number")
    void promise10DiskIsItsNumber() {
        takesEachDisk(disk -> { }, "wipe", 0, 1);
    }

    @Says("Promise 10: - `way`: 0 to 2")
    void promise10WayIs0To2() {
        bring(1, 0);
        for (int way = 0; way <= 2; way++) {
            wouldAnswer(way == 0 ? WIPED : SPOILED, "wipe", 0, way, 1);
        }
        for (int way : NO_WAYS) {
            refuses(ARGUMENT, "wipe", 0, way, 1);
        }
    }

    @Says("Promise 10: - `witness`: 0 to 7, not its keeper")
    void promise10WitnessIs0To7NotItsKeeper() {
        for (int keeper = 0; keeper <= 7; keeper++) {
            anew();
            bring(1, keeper);
            for (int witness = 0; witness <= 7; witness++) {
                wouldAnswer(witness == keeper ? ARGUMENT : (Object) WIPED, "wipe", 0, 0, witness);
            }
            for (int witness : NO_KEEPERS) {
                refuses(INDEX, "wipe", 0, 0, witness);
            }
        }
    }

    @Says("Promise 10: Returns WIPED or SPOILED.")
    void promise10ReturnsWhatItIsThen() {
        bring(2, 0);
        answers(SPOILED, "wipe", 0, 1, 1);
        answers(SPOILED, "stateOf", 0);
        answers(WIPED, "wipe", 1, 0, 1);
        answers(WIPED, "stateOf", 1);
    }

    @Says("Promise 10: Throws `IndexOutOfBoundsException` if there is no such disk or keeper")
    void promise10ThrowsIfThereIsNoSuchDisk() {
        refusesNoDisk("wipe", 0, 1);
    }

    @Says("Promise 10: Throws `IndexOutOfBoundsException` if there is no such disk or keeper")
    void promise10ThrowsIfThereIsNoSuchKeeper() {
        bring(1, 0);
        for (int witness : NO_KEEPERS) {
            refuses(INDEX, "wipe", 0, 0, witness);
            refuses(INDEX, "wipe", 1, 0, witness);
        }
    }

    @Says("Promise 10: Throws `IllegalArgumentException` if way is out of range, or the witness is its keeper")
    void promise10ThrowsIfWayIsOutOfRange() {
        for (int kind = 0; kind <= 2; kind++) {
            anew();
            tell("bring", kind, 0, 0);
            for (int way : NO_WAYS) {
                refuses(ARGUMENT, "wipe", 0, way, 1);
            }
        }
    }

    @Says("Promise 10: Throws `IllegalArgumentException` if way is out of range, or the witness is its keeper")
    void promise10ThrowsIfTheWitnessIsItsKeeper() {
        for (int keeper = 0; keeper <= 7; keeper++) {
            anew();
            bring(1, keeper);
            for (int way = 0; way <= 2; way++) {
                refuses(ARGUMENT, "wipe", 0, way, keeper);
            }
        }
    }

    @Says("Promise 10: Throws `IllegalArgumentException` if way is out of range, or the witness is its keeper")
    void promise10ThrowsIfTheWitnessIsItsKeeperByNow() {
        bring(1, 0);
        tell("offer", 0, 5);
        tell("answer", 0, true);
        refuses(ARGUMENT, "wipe", 0, 0, 5);
        answers(WIPED, "wipe", 0, 0, 0);
    }

    private static final String WIPE_STATE =
            "Promise 10: Throws `IllegalStateException` if it is missing, offered, in a sealed crate, wiped or broken";

    @Says(WIPE_STATE)
    void promise10ThrowsIfItIsMissing() {
        bring(1, 0);
        tell("lose", 0);
        refuses(STATE, "wipe", 0, 0, 1);
        tell("find", 0);
        answers(WIPED, "wipe", 0, 0, 1);
    }

    @Says(WIPE_STATE)
    void promise10ThrowsIfItIsOffered() {
        bring(1, 0);
        tell("offer", 0, 1);
        refuses(STATE, "wipe", 0, 0, 1);
        tell("answer", 0, false);
        answers(WIPED, "wipe", 0, 0, 1);
    }

    @Says(WIPE_STATE)
    void promise10ThrowsIfItIsInASealedCrate() {
        bring(1, 0);
        tell("pack", 0, 0);
        wouldAnswer(WIPED, "wipe", 0, 0, 1);
        tell("seal", 0);
        refuses(STATE, "wipe", 0, 0, 1);
        tell("open", 0, 1);
        answers(WIPED, "wipe", 0, 0, 1);
    }

    @Says(WIPE_STATE)
    void promise10ThrowsIfItIsWiped() {
        bringWiped();
        for (int way = 0; way <= 2; way++) {
            refuses(STATE, "wipe", 0, way, 1);
        }
        tell("check", 0, 1, true);
        refuses(STATE, "wipe", 0, 0, 1);
    }

    @Says(WIPE_STATE)
    void promise10ThrowsIfItIsBroken() {
        bring(1, 0);
        tell("smash", 0, 1);
        for (int way = 0; way <= 2; way++) {
            refuses(STATE, "wipe", 0, way, 1);
        }
    }

    // ---- promise 11: smash

    @Says("Promise 11: Breaks a disk; the doer is its keeper.")
    void promise11BreaksADisk() {
        bring(2, 3);
        tell("smash", 0, 4);
        answers(BROKEN, "stateOf", 0);
        answers(RAW, "stateOf", 1);
        answers(true, "isDone", 0);
        answers(3, "keeperOf", 0);
        answers(2, "logged");
    }

    @Says("Promise 11: Breaks a disk; the doer is its keeper.")
    void promise11TheDoerIsItsKeeper() {
        bring(1, 0);
        tell("offer", 0, 4);
        tell("answer", 0, true);
        refuses(ARGUMENT, "smash", 0, 4);
        answers(RAW, "smash", 0, 0);
    }

    @Says("Promise 11: - `disk`: its number")
    void promise11DiskIsItsNumber() {
        takesEachDisk(disk -> { }, "smash", 1);
    }

    @Says("Promise 11: - `witness`: 0 to 7, not its keeper")
    void promise11WitnessIs0To7NotItsKeeper() {
        for (int keeper = 0; keeper <= 7; keeper++) {
            anew();
            bring(1, keeper);
            for (int witness = 0; witness <= 7; witness++) {
                wouldAnswer(witness == keeper ? ARGUMENT : (Object) RAW, "smash", 0, witness);
            }
            for (int witness : NO_KEEPERS) {
                refuses(INDEX, "smash", 0, witness);
            }
        }
    }

    @Says("Promise 11: Returns what it was.")
    void promise11ReturnsWhatItWas() {
        bring(3, 2);
        tell("wipe", 1, 0, 0);
        tell("wipe", 2, 1, 0);
        answers(RAW, "smash", 0, 0);
        answers(WIPED, "smash", 1, 7);
        answers(SPOILED, "smash", 2, 3);
    }

    @Says("Promise 11: Returns what it was.")
    void promise11ReturnsWhatItWasAfterChecks() {
        bring(2, 2);
        for (int disk = 0; disk < 2; disk++) {
            tell("wipe", disk, 0, 0);
            tell("check", disk, 0, disk == 0);
        }
        answers(WIPED, "smash", 0, 0);
        answers(SPOILED, "smash", 1, 0);
    }

    @Says("Promise 11: Throws `IndexOutOfBoundsException` if there is no such disk or keeper")
    void promise11ThrowsIfThereIsNoSuchDisk() {
        refusesNoDisk("smash", 1);
    }

    @Says("Promise 11: Throws `IndexOutOfBoundsException` if there is no such disk or keeper")
    void promise11ThrowsIfThereIsNoSuchKeeper() {
        bring(1, 0);
        for (int witness : NO_KEEPERS) {
            refuses(INDEX, "smash", 0, witness);
            refuses(INDEX, "smash", 1, witness);
        }
    }

    @Says("Promise 11: Throws `IllegalArgumentException` if the witness is its keeper")
    void promise11ThrowsIfTheWitnessIsItsKeeper() {
        for (int keeper = 0; keeper <= 7; keeper++) {
            anew();
            bring(1, keeper);
            refuses(ARGUMENT, "smash", 0, keeper);
        }
    }

    private static final String SMASH_STATE =
            "Promise 11: Throws `IllegalStateException` if it is missing, offered, in a sealed crate, or broken";

    @Says(SMASH_STATE)
    void promise11ThrowsIfItIsMissing() {
        bring(1, 0);
        tell("lose", 0);
        refuses(STATE, "smash", 0, 1);
        tell("find", 0);
        answers(RAW, "smash", 0, 1);
    }

    @Says(SMASH_STATE)
    void promise11ThrowsIfItIsOffered() {
        bring(1, 0);
        tell("offer", 0, 1);
        refuses(STATE, "smash", 0, 1);
        tell("answer", 0, false);
        answers(RAW, "smash", 0, 1);
    }

    @Says(SMASH_STATE)
    void promise11ThrowsIfItIsInASealedCrate() {
        bring(1, 0);
        tell("pack", 0, 0);
        wouldAnswer(RAW, "smash", 0, 1);
        tell("seal", 0);
        refuses(STATE, "smash", 0, 1);
        tell("open", 0, 1);
        answers(RAW, "smash", 0, 1);
    }

    @Says(SMASH_STATE)
    void promise11ThrowsIfItIsBroken() {
        bring(1, 0);
        tell("smash", 0, 1);
        refuses(STATE, "smash", 0, 1);
        refuses(STATE, "smash", 0, 7);
    }

    // ---- promise 12: check

    @Says("Promise 12: Checks a wiped disk.")
    void promise12ChecksADisk() {
        bring(2, 0);
        tell("wipe", 0, 0, 1);
        tell("wipe", 1, 0, 1);
        tell("check", 0, 1, true);
        answers(true, "isDone", 0);
        answers(false, "isDone", 1);
        answers(WIPED, "stateOf", 0);
        answers(0, "keeperOf", 0);
        answers(2, "logged");
    }

    @Says("Promise 12: Checks a wiped disk.")
    void promise12ChecksADiskAgain() {
        bringWiped();
        answers(WIPED, "check", 0, 1, true);
        answers(WIPED, "check", 0, 7, true);
        answers(true, "isDone", 0);
        answers(SPOILED, "check", 0, 1, false);
        answers(false, "isDone", 0);
    }

    @Says("Promise 12: - `disk`: its number")
    void promise12DiskIsItsNumber() {
        takesEachDisk(disk -> tell("wipe", disk, 0, 1), "check", 1, true);
    }

    @Says("Promise 12: - `witness`: 0 to 7, not the one who wiped it")
    void promise12WitnessIs0To7NotTheOneWhoWipedIt() {
        for (int keeper = 0; keeper <= 7; keeper++) {
            anew();
            bring(1, keeper);
            tell("wipe", 0, 0, (keeper + 1) % KEEPERS);
            for (int witness = 0; witness <= 7; witness++) {
                wouldAnswer(witness == keeper ? ARGUMENT : (Object) WIPED, "check", 0, witness, true);
            }
            for (int witness : NO_KEEPERS) {
                refuses(INDEX, "check", 0, witness, true);
            }
        }
    }

    @Says("Promise 12: - `isGood`: whether nothing was found on it")
    void promise12IsGoodTellsWhetherNothingWasFound() {
        bring(2, 0);
        tell("wipe", 0, 0, 1);
        tell("wipe", 1, 0, 1);
        tell("check", 0, 1, true);
        tell("check", 1, 1, false);
        answers(WIPED, "stateOf", 0);
        answers(true, "isDone", 0);
        answers(SPOILED, "stateOf", 1);
        answers(false, "isDone", 1);
    }

    @Says("Promise 12: Returns what it is then.")
    void promise12ReturnsWhatItIsThen() {
        bringWiped();
        wouldAnswer(WIPED, "check", 0, 1, true);
        wouldAnswer(SPOILED, "check", 0, 1, false);
    }

    @Says("Promise 12: Throws `IndexOutOfBoundsException` if there is no such disk or keeper")
    void promise12ThrowsIfThereIsNoSuchDisk() {
        refusesNoDisk("check", 1, true);
        refusesNoDisk("check", 1, false);
    }

    @Says("Promise 12: Throws `IndexOutOfBoundsException` if there is no such disk or keeper")
    void promise12ThrowsIfThereIsNoSuchKeeper() {
        bringWiped();
        bring(1, 0);
        for (int witness : NO_KEEPERS) {
            refuses(INDEX, "check", 0, witness, true);
            refuses(INDEX, "check", 0, witness, false);
            refuses(INDEX, "check", 1, witness, true);
            refuses(INDEX, "check", 2, witness, true);
        }
    }

    @Says("Promise 12: Throws `IllegalArgumentException` if it is WIPED, and the witness wiped it")
    void promise12ThrowsIfTheWitnessWipedIt() {
        bring(1, 5);
        tell("wipe", 0, 0, 2);
        refuses(ARGUMENT, "check", 0, 5, true);
        refuses(ARGUMENT, "check", 0, 5, false);
        tell("check", 0, 2, true);
        refuses(ARGUMENT, "check", 0, 5, true);
    }

    @Says("Promise 12: Throws `IllegalArgumentException` if it is WIPED, and the witness wiped it")
    void promise12ThrowsIfTheWitnessWipedItAndHasItNoMore() {
        bring(1, 5);
        tell("wipe", 0, 0, 2);
        tell("offer", 0, 3);
        tell("answer", 0, true);
        refuses(ARGUMENT, "check", 0, 5, true);
        answers(WIPED, "check", 0, 3, true);
    }

    @Says("Promise 12: Throws `IllegalArgumentException` if it is WIPED, and the witness wiped it")
    void promise12TheOneWhoWipedItIsTheLastOne() {
        bring(1, 5);
        tell("wipe", 0, 0, 2);
        tell("offer", 0, 3);
        tell("answer", 0, true);
        tell("check", 0, 3, false);
        tell("wipe", 0, 0, 2);
        refuses(ARGUMENT, "check", 0, 3, true);
        answers(WIPED, "check", 0, 5, true);
    }

    @Says("Promise 12: Throws `IllegalArgumentException` if it is WIPED, and the witness wiped it")
    void promise12ADiskThatIsNotWipedHasNoOneWhoWipedIt() {
        bring(2, 5);
        refuses(STATE, "check", 0, 5, true);
        tell("wipe", 0, 1, 2);
        refuses(STATE, "check", 0, 5, true);
        tell("wipe", 0, 0, 2);
        tell("check", 0, 2, false);
        refuses(STATE, "check", 0, 5, true);
        tell("wipe", 1, 0, 2);
        tell("smash", 1, 2);
        refuses(STATE, "check", 1, 5, true);
    }

    private static final String CHECK_STATE =
            "Promise 12: Throws `IllegalStateException` if it is missing, offered, in a sealed crate, or not wiped";

    @Says(CHECK_STATE)
    void promise12ThrowsIfItIsMissing() {
        bringWiped();
        tell("lose", 0);
        refuses(STATE, "check", 0, 1, true);
        refuses(STATE, "check", 0, 1, false);
        tell("find", 0);
        answers(WIPED, "check", 0, 1, true);
    }

    @Says(CHECK_STATE)
    void promise12ThrowsIfItIsOffered() {
        bringWiped();
        tell("offer", 0, 1);
        refuses(STATE, "check", 0, 1, true);
        refuses(STATE, "check", 0, 2, false);
        tell("answer", 0, true);
        answers(WIPED, "check", 0, 1, true);
    }

    @Says(CHECK_STATE)
    void promise12ThrowsIfItIsInASealedCrate() {
        bringWiped();
        tell("pack", 0, 0);
        wouldAnswer(WIPED, "check", 0, 1, true);
        tell("seal", 0);
        refuses(STATE, "check", 0, 1, true);
        refuses(STATE, "check", 0, 1, false);
        tell("open", 0, 1);
        answers(WIPED, "check", 0, 1, true);
    }

    @Says(CHECK_STATE)
    void promise12ThrowsIfItIsRaw() {
        bring(1, 0);
        refuses(STATE, "check", 0, 1, true);
        refuses(STATE, "check", 0, 1, false);
    }

    @Says(CHECK_STATE)
    void promise12ThrowsIfItIsSpoiled() {
        bring(1, 0);
        tell("wipe", 0, 1, 1);
        refuses(STATE, "check", 0, 1, true);
        tell("wipe", 0, 0, 1);
        tell("check", 0, 1, false);
        refuses(STATE, "check", 0, 1, true);
    }

    @Says(CHECK_STATE)
    void promise12ThrowsIfItIsBroken() {
        bringWiped();
        tell("smash", 0, 1);
        refuses(STATE, "check", 0, 1, true);
        refuses(STATE, "check", 0, 1, false);
    }
}
