/** Promises 1 to 4: a new object, and disks and hands. */
final class HandsSentences extends Sentences {

    // ---- promise 1: a new object

    @Says("Promise 1: No disks.")
    void promise1NoDisksAreCounted() {
        answers(0, "disks");
        answers(0, "missing");
        answers(0, "logged");
        answers(0, "oddCounts");
        answers(0, "certificates");
        for (int keeper = 0; keeper < KEEPERS; keeper++) {
            answers(0, "has", keeper);
        }
    }

    @Says("Promise 1: No disks.")
    void promise1NoDiskIsThere() {
        for (Call ask : Run.asksOf(0)) {
            refuses(INDEX, ask.name(), 0);
        }
    }

    @Says("Promise 1: No disks.")
    void promise1NothingOfAnotherObject() {
        makeBusy();
        Run first = run();
        anew();
        same("a second object", run().sight(), new Run().sight());
        answers(0, "bring", 0, 0, 1);
        answers(0, "seal", 3);
        tell("smash", 0, 0);
        tell("certify", 1);
        answers(0, "certificateOf", 0);
        anew();
        makeBusy();
        same("the first object", first.sight(), run().sight());
    }

    // ---- promise 2: bring

    @Says("Promise 2: Brings a disk.")
    void promise2BringsADisk() {
        tell("bring", 1, 2, 5);
        answers(1, "disks");
        answers(1, "has", 5);
        answers(5, "keeperOf", 0);
        answers(5, "keeperByLog", 0);
        answers(NONE, "crateOf", 0);
        answers(RAW, "stateOf", 0);
        answers(false, "isDone", 0);
        answers(NONE, "offeredTo", 0);
        answers(NONE, "certificateOf", 0);
        answers(0, "missing");
        answers(1, "logged");
    }

    @Says("Promise 2: - `kind`: 0 to 2")
    void promise2KindIs0To2() {
        for (int kind = 0; kind <= 2; kind++) {
            anew();
            answers(0, "bring", kind, 0, 0);
            for (int way = 0; way <= 2; way++) {
                wouldAnswer(way == kind ? WIPED : SPOILED, "wipe", 0, way, 1);
            }
        }
        anew();
        for (int kind : NO_KINDS) {
            refuses(ARGUMENT, "bring", kind, 0, 0);
        }
    }

    @Says("Promise 2: - `secrecy`: 0 to 3")
    void promise2SecrecyIs0To3() {
        for (int secrecy = 0; secrecy <= 3; secrecy++) {
            anew();
            answers(0, "bring", 0, secrecy, 0);
            answers(secrecy == 3 ? SPOILED : WIPED, "wipe", 0, 0, 1);
        }
        anew();
        for (int secrecy : NO_SECRECIES) {
            refuses(ARGUMENT, "bring", 0, secrecy, 0);
        }
    }

    @Says("Promise 2: - `keeper`: 0 to 7")
    void promise2KeeperIs0To7() {
        for (int keeper = 0; keeper <= 7; keeper++) {
            anew();
            answers(0, "bring", 0, 0, keeper);
            answers(keeper, "keeperOf", 0);
            answers(1, "has", keeper);
        }
        for (int keeper : NO_KEEPERS) {
            refuses(INDEX, "bring", 0, 0, keeper);
        }
    }

    @Says("Promise 2: Returns its number.")
    void promise2ReturnsNumbersFrom0To59() {
        for (int disk = 0; disk < MOST_DISKS; disk++) {
            answers(disk, "bring", disk % 3, disk % 4, disk % KEEPERS);
        }
    }

    @Says("Promise 2: Returns its number.")
    void promise2ReturnsTheNextNumberAfterARefusedOne() {
        answers(0, "bring", 0, 0, 0);
        refuses(ARGUMENT, "bring", 3, 0, 0);
        answers(1, "bring", 0, 0, 0);
    }

    @Says("Promise 2: Throws `IndexOutOfBoundsException` if there is no such keeper")
    void promise2ThrowsIfThereIsNoSuchKeeper() {
        for (int keeper : NO_KEEPERS) {
            refuses(INDEX, "bring", 0, 0, keeper);
        }
        bring(MOST_DISKS - 1, 7);
        for (int keeper : NO_KEEPERS) {
            refuses(INDEX, "bring", 2, 3, keeper);
        }
    }

    @Says("Promise 2: Throws `IllegalArgumentException` if kind or secrecy is out of range")
    void promise2ThrowsIfKindIsOutOfRange() {
        for (int kind : NO_KINDS) {
            for (int secrecy = 0; secrecy <= 3; secrecy++) {
                refuses(ARGUMENT, "bring", kind, secrecy, 0);
            }
        }
    }

    @Says("Promise 2: Throws `IllegalArgumentException` if kind or secrecy is out of range")
    void promise2ThrowsIfSecrecyIsOutOfRange() {
        for (int secrecy : NO_SECRECIES) {
            for (int kind = 0; kind <= 2; kind++) {
                refuses(ARGUMENT, "bring", kind, secrecy, 0);
            }
        }
    }

    @Says("Promise 2: Throws `IllegalArgumentException` if kind or secrecy is out of range")
    void promise2ThrowsIfBothAreOutOfRange() {
        refuses(ARGUMENT, "bring", -1, -1, 7);
        refuses(ARGUMENT, "bring", 3, 4, 7);
        refuses(ARGUMENT, "bring", -1, 4, 7);
    }

    @Says("Promise 2: Throws `IllegalStateException` if 60 were brought")
    void promise2ThrowsIf60WereBrought() {
        bring(MOST_DISKS - 1, 0);
        answers(59, "bring", 0, 0, 0);
        refuses(STATE, "bring", 0, 0, 0);
        refuses(STATE, "bring", 2, 3, 7);
    }

    @Says("Promise 2: Throws `IllegalStateException` if 60 were brought")
    void promise2ThrowsIf60WereBroughtWhateverBecameOfThem() {
        bring(MOST_DISKS, 0);
        tell("smash", 59, 1);
        tell("certify", 0);
        tell("lose", 0);
        tell("pack", 1, 0);
        refuses(STATE, "bring", 0, 0, 0);
    }

    // ---- promise 3: offer

    @Says("Promise 3: Offers a disk to another keeper.")
    void promise3OffersADisk() {
        bring(2, 3);
        tell("offer", 0, 7);
        answers(7, "offeredTo", 0);
        answers(3, "keeperOf", 0);
        answers(3, "keeperByLog", 0);
        answers(NONE, "offeredTo", 1);
        answers(2, "logged");
        answers(2, "has", 3);
        answers(0, "has", 7);
    }

    @Says("Promise 3: - `disk`: its number")
    void promise3DiskIsItsNumber() {
        takesEachDisk(disk -> { }, "offer", 1);
    }

    @Says("Promise 3: - `to`: 0 to 7, not its keeper")
    void promise3ToIs0To7NotItsKeeper() {
        for (int keeper = 0; keeper <= 7; keeper++) {
            anew();
            bring(1, keeper);
            for (int to = 0; to <= 7; to++) {
                wouldAnswer(to == keeper ? ARGUMENT : (Object) keeper, "offer", 0, to);
            }
            for (int to : NO_KEEPERS) {
                refuses(INDEX, "offer", 0, to);
            }
        }
    }

    @Says("Promise 3: Returns its keeper.")
    void promise3ReturnsItsKeeper() {
        for (int keeper = 0; keeper <= 7; keeper++) {
            anew();
            bring(1, keeper);
            answers(keeper, "offer", 0, (keeper + 1) % KEEPERS);
            tell("answer", 0, true);
            answers((keeper + 1) % KEEPERS, "offer", 0, keeper);
        }
    }

    @Says("Promise 3: Throws `IndexOutOfBoundsException` if there is no such disk or keeper")
    void promise3ThrowsIfThereIsNoSuchDisk() {
        refusesNoDisk("offer", 1);
    }

    @Says("Promise 3: Throws `IndexOutOfBoundsException` if there is no such disk or keeper")
    void promise3ThrowsIfThereIsNoSuchKeeper() {
        bring(1, 0);
        for (int to : NO_KEEPERS) {
            refuses(INDEX, "offer", 0, to);
            refuses(INDEX, "offer", 1, to);
        }
    }

    @Says("Promise 3: Throws `IllegalArgumentException` if to is its keeper")
    void promise3ThrowsIfToIsItsKeeper() {
        for (int keeper = 0; keeper <= 7; keeper++) {
            anew();
            bring(1, keeper);
            refuses(ARGUMENT, "offer", 0, keeper);
        }
    }

    @Says("Promise 3: Throws `IllegalArgumentException` if to is its keeper")
    void promise3ThrowsIfToIsItsKeeperByNow() {
        bring(1, 2);
        tell("offer", 0, 5);
        tell("answer", 0, true);
        refuses(ARGUMENT, "offer", 0, 5);
        answers(5, "offer", 0, 2);
    }

    @Says("Promise 3: Throws `IllegalStateException` if it is missing, offered, or in a crate")
    void promise3ThrowsIfItIsMissing() {
        bring(1, 0);
        tell("lose", 0);
        refuses(STATE, "offer", 0, 1);
        tell("find", 0);
        answers(0, "offer", 0, 1);
    }

    @Says("Promise 3: Throws `IllegalStateException` if it is missing, offered, or in a crate")
    void promise3ThrowsIfItIsOffered() {
        bring(1, 1);
        tell("offer", 0, 0);
        refuses(STATE, "offer", 0, 0);
        refuses(STATE, "offer", 0, 7);
        tell("answer", 0, false);
        answers(1, "offer", 0, 7);
    }

    @Says("Promise 3: Throws `IllegalStateException` if it is missing, offered, or in a crate")
    void promise3ThrowsIfItIsInACrate() {
        for (int crate : new int[] {0, 9}) {
            anew();
            bring(1, 0);
            tell("pack", 0, crate);
            refuses(STATE, "offer", 0, 1);
            tell("seal", crate);
            refuses(STATE, "offer", 0, 1);
            tell("open", crate, 1);
            tell("unpack", 0);
            answers(0, "offer", 0, 1);
        }
    }

    // ---- promise 4: answer

    @Says("Promise 4: Answers an offer.")
    void promise4AnswersAnOffer() {
        bring(2, 3);
        tell("offer", 0, 5);
        tell("offer", 1, 5);
        tell("answer", 0, true);
        answers(NONE, "offeredTo", 0);
        answers(5, "offeredTo", 1);
        tell("answer", 1, false);
        answers(NONE, "offeredTo", 1);
    }

    @Says("Promise 4: - `disk`: its number")
    void promise4DiskIsItsNumber() {
        takesEachDisk(disk -> tell("offer", disk, 1), "answer", true);
    }

    @Says("Promise 4: - `takes`: whether it is taken, or sent back")
    void promise4TakesIsTaken() {
        bring(1, 3);
        tell("offer", 0, 5);
        tell("answer", 0, true);
        answers(5, "keeperOf", 0);
        answers(5, "keeperByLog", 0);
        answers(1, "has", 5);
        answers(0, "has", 3);
        answers(2, "logged");
    }

    @Says("Promise 4: - `takes`: whether it is taken, or sent back")
    void promise4TakesIsSentBack() {
        bring(1, 3);
        tell("offer", 0, 5);
        tell("answer", 0, false);
        answers(3, "keeperOf", 0);
        answers(3, "keeperByLog", 0);
        answers(0, "has", 5);
        answers(1, "has", 3);
        answers(1, "logged");
    }

    @Says("Promise 4: Returns its keeper then.")
    void promise4ReturnsItsKeeperThen() {
        for (int keeper = 0; keeper <= 7; keeper++) {
            for (int to = 0; to <= 7; to++) {
                if (to != keeper) {
                    anew();
                    bring(1, keeper);
                    tell("offer", 0, to);
                    wouldAnswer(to, "answer", 0, true);
                    wouldAnswer(keeper, "answer", 0, false);
                }
            }
        }
    }

    @Says("Promise 4: Throws `IndexOutOfBoundsException` if there is no such disk")
    void promise4ThrowsIfThereIsNoSuchDisk() {
        refusesNoDisk("answer", true);
        refusesNoDisk("answer", false);
    }

    @Says("Promise 4: Throws `IllegalStateException` if it is missing, or not offered")
    void promise4ThrowsIfItIsMissing() {
        bring(1, 0);
        tell("lose", 0);
        refuses(STATE, "answer", 0, true);
        refuses(STATE, "answer", 0, false);
    }

    @Says("Promise 4: Throws `IllegalStateException` if it is missing, or not offered")
    void promise4ThrowsIfItIsMissingThatWasOffered() {
        bring(1, 0);
        tell("offer", 0, 1);
        tell("lose", 0);
        refuses(STATE, "answer", 0, true);
        refuses(STATE, "answer", 0, false);
        tell("find", 0);
        refuses(STATE, "answer", 0, true);
    }

    @Says("Promise 4: Throws `IllegalStateException` if it is missing, or not offered")
    void promise4ThrowsIfItIsNotOffered() {
        bring(2, 0);
        tell("offer", 1, 1);
        refuses(STATE, "answer", 0, true);
        refuses(STATE, "answer", 0, false);
    }

    @Says("Promise 4: Throws `IllegalStateException` if it is missing, or not offered")
    void promise4ThrowsIfItWasAnswered() {
        for (boolean takes : new boolean[] {true, false}) {
            anew();
            bring(1, 0);
            tell("offer", 0, 1);
            tell("answer", 0, takes);
            refuses(STATE, "answer", 0, true);
            refuses(STATE, "answer", 0, false);
        }
    }
}
