/** Promises 13 to 15: missing disks and certificates. */
final class MissingSentences extends Sentences {

    // ---- promise 13: lose

    private static final String LOSES = "Promise 13: Tells that a disk is missing; it stays with its keeper and in its "
            + "crate, among the disks of which it counts, and an offer of it ends.";

    @Says(LOSES)
    void promise13ItIsMissing() {
        bring(2, 5);
        tell("lose", 1);
        answers(1, "missing");
        answers(2, "disks");
        answers(RAW, "stateOf", 1);
        wouldAnswer(NONE, "find", 1);
        wouldAnswer(STATE, "find", 0);
    }

    @Says(LOSES)
    void promise13ItStaysWithItsKeeper() {
        bring(2, 5);
        tell("lose", 0);
        answers(5, "keeperOf", 0);
        answers(5, "keeperByLog", 0);
        answers(2, "has", 5);
        answers(2, "logged");
    }

    @Says(LOSES)
    void promise13ItStaysInItsCrate() {
        bring(1, 0);
        tell("pack", 0, 9);
        tell("lose", 0);
        answers(9, "crateOf", 0);
    }

    @Says(LOSES)
    void promise13ItStaysInItsSealedCrate() {
        bring(1, 0);
        tell("pack", 0, 9);
        tell("seal", 9);
        answers(0, "lose", 0);
        answers(9, "crateOf", 0);
        answers(0, "sealOf", 9);
    }

    @Says(LOSES)
    void promise13ItCountsAmongItsCratesDisks() {
        bring(3, 0);
        packAll(2, 0);
        tell("lose", 0);
        answers(3, "pack", 2, 0);
        tell("seal", 0);
        wouldAnswer(0, "open", 0, 3);
        tell("lose", 1);
        answers(0, "open", 0, 3);
    }

    @Says(LOSES)
    void promise13AnOfferOfItEnds() {
        bring(2, 0);
        tell("offer", 0, 1);
        tell("offer", 1, 7);
        answers(0, "lose", 0);
        answers(NONE, "offeredTo", 0);
        answers(7, "offeredTo", 1);
        tell("find", 0);
        answers(NONE, "offeredTo", 0);
        answers(0, "keeperOf", 0);
        answers(0, "offer", 0, 2);
    }

    @Says("Promise 13: - `disk`: its number")
    void promise13DiskIsItsNumber() {
        takesEachDisk(disk -> { }, "lose");
    }

    @Says("Promise 13: Returns its keeper.")
    void promise13ReturnsItsKeeper() {
        for (int keeper = 0; keeper < KEEPERS; keeper++) {
            anew();
            bring(1, keeper);
            wouldAnswer(keeper, "lose", 0);
            tell("offer", 0, (keeper + 1) % KEEPERS);
            wouldAnswer(keeper, "lose", 0);
        }
    }

    @Says("Promise 13: Returns its keeper.")
    void promise13ReturnsItsKeeperInACarriedCrate() {
        bring(1, 0);
        tell("pack", 0, 0);
        tell("seal", 0);
        tell("carry", 0, 6);
        answers(6, "lose", 0);
    }

    @Says("Promise 13: Throws `IndexOutOfBoundsException` if there is no such disk")
    void promise13ThrowsIfThereIsNoSuchDisk() {
        refusesNoDisk("lose");
    }

    @Says("Promise 13: Throws `IllegalStateException` if it is missing")
    void promise13ThrowsIfItIsMissing() {
        bring(2, 0);
        tell("lose", 0);
        refuses(STATE, "lose", 0);
        tell("lose", 1);
        refuses(STATE, "lose", 0);
        tell("find", 0);
        answers(0, "lose", 0);
    }

    // ---- promise 14: find

    @Says("Promise 14: Tells that a missing disk was found where it should be.")
    void promise14ItIsMissingNoMore() {
        bring(2, 3);
        tell("lose", 0);
        tell("lose", 1);
        tell("find", 0);
        answers(1, "missing");
        wouldAnswer(3, "offer", 0, 1);
        wouldAnswer(STATE, "offer", 1, 1);
    }

    @Says("Promise 14: Tells that a missing disk was found where it should be.")
    void promise14ItIsWhereItShouldBe() {
        bring(1, 3);
        tell("carry", 4, 3);
        tell("wipe", 0, 0, 0);
        tell("check", 0, 0, true);
        tell("pack", 0, 4);
        tell("lose", 0);
        tell("find", 0);
        answers(4, "crateOf", 0);
        answers(3, "keeperOf", 0);
        answers(WIPED, "stateOf", 0);
        answers(true, "isDone", 0);
        answers(1, "logged");
    }

    @Says("Promise 14: Tells that a missing disk was found where it should be.")
    void promise14ItIsWhereItsCrateWasCarried() {
        bring(1, 0);
        tell("pack", 0, 4);
        tell("lose", 0);
        tell("seal", 4);
        tell("carry", 4, 7);
        answers(4, "find", 0);
        answers(7, "keeperOf", 0);
    }

    @Says("Promise 14: - `disk`: its number")
    void promise14DiskIsItsNumber() {
        takesEachDisk(disk -> tell("lose", disk), "find");
    }

    @Says("Promise 14: Returns the crate in which it is; NONE for none.")
    void promise14ReturnsCrates0To9() {
        for (int crate = 0; crate < CRATES; crate++) {
            anew();
            bring(1, 0);
            tell("pack", 0, crate);
            tell("lose", 0);
            wouldAnswer(crate, "find", 0);
            tell("seal", crate);
            wouldAnswer(crate, "find", 0);
        }
    }

    @Says("Promise 14: Returns the crate in which it is; NONE for none.")
    void promise14ReturnsNoneForNone() {
        bring(2, 0);
        packAll(2, 0);
        tell("unpack", 0);
        tell("lose", 0);
        answers(-1, "find", 0);
    }

    @Says("Promise 14: Throws `IndexOutOfBoundsException` if there is no such disk")
    void promise14ThrowsIfThereIsNoSuchDisk() {
        refusesNoDisk("find");
    }

    @Says("Promise 14: Throws `IllegalStateException` if it is not missing")
    void promise14ThrowsIfItIsNotMissing() {
        bring(2, 0);
        tell("lose", 1);
        refuses(STATE, "find", 0);
        tell("pack", 0, 0);
        refuses(STATE, "find", 0);
        tell("find", 1);
        refuses(STATE, "find", 1);
    }

    // ---- promise 15: certify

    @Says("Promise 15: Makes a certificate.")
    void promise15MakesACertificate() {
        bring(2, 0);
        tell("smash", 1, 1);
        tell("certify", 0);
        answers(1, "certificates");
        answers(NONE, "certificateOf", 0);
        answers(0, "certificateOf", 1);
        answers(2, "logged");
    }

    @Says("Promise 15: - `keeper`: 0 to 7")
    void promise15KeeperIs0To7() {
        for (int keeper = 0; keeper <= 7; keeper++) {
            tell("bring", 0, 0, keeper);
            tell("smash", keeper, (keeper + 1) % KEEPERS);
        }
        for (int keeper = 0; keeper <= 7; keeper++) {
            answers(1, "certify", keeper);
            answers(keeper, "certificateOf", keeper);
            answers(keeper + 1, "certificates");
        }
        for (int keeper : NO_KEEPERS) {
            refuses(INDEX, "certify", keeper);
        }
    }

    @Says("Promise 15: Returns how many disks it has.")
    void promise15Returns1To60() {
        for (int done : new int[] {1, 2, 59, 60}) {
            anew();
            bring(MOST_DISKS, 0);
            for (int disk = MOST_DISKS - done; disk < MOST_DISKS; disk++) {
                tell("smash", disk, 1);
            }
            answers(done, "certify", 0);
        }
    }

    @Says("Promise 15: Returns how many disks it has.")
    void promise15ReturnsNotThoseOfEarlierOnes() {
        bring(4, 0);
        tell("smash", 0, 1);
        answers(1, "certify", 0);
        tell("smash", 1, 1);
        tell("smash", 2, 1);
        answers(2, "certify", 0);
        tell("smash", 3, 1);
        answers(1, "certify", 0);
    }

    @Says("Promise 15: Throws `IndexOutOfBoundsException` if there is no such keeper")
    void promise15ThrowsIfThereIsNoSuchKeeper() {
        for (int keeper : NO_KEEPERS) {
            refuses(INDEX, "certify", keeper);
        }
        bring(1, 7);
        tell("smash", 0, 0);
        for (int keeper : NO_KEEPERS) {
            refuses(INDEX, "certify", keeper);
        }
    }

    private static final String NO_DISK_ON_IT =
            "Promise 15: Throws `java` .util.NoSuchElementException if there would be no disk on it";

    @Says(NO_DISK_ON_IT)
    void promise15ThrowsIfTheKeeperHasNoDisk() {
        bring(1, 3);
        tell("smash", 0, 0);
        for (int keeper = 0; keeper < KEEPERS; keeper++) {
            if (keeper != 3) {
                refuses(NO_ELEMENT, "certify", keeper);
            }
        }
        answers(1, "certify", 3);
    }

    @Says(NO_DISK_ON_IT)
    void promise15ThrowsIfNoDiskIsDone() {
        refuses(NO_ELEMENT, "certify", 0);
        bring(3, 0);
        refuses(NO_ELEMENT, "certify", 0);
        tell("wipe", 0, 0, 1);
        tell("wipe", 1, 1, 1);
        refuses(NO_ELEMENT, "certify", 0);
        tell("check", 0, 1, true);
        answers(1, "certify", 0);
    }

    @Says(NO_DISK_ON_IT)
    void promise15ThrowsIfAllAreMissing() {
        bring(1, 0);
        tell("smash", 0, 1);
        tell("lose", 0);
        refuses(NO_ELEMENT, "certify", 0);
        tell("find", 0);
        answers(1, "certify", 0);
    }

    @Says(NO_DISK_ON_IT)
    void promise15ThrowsIfAllAreOnCertificates() {
        bring(2, 0);
        tell("smash", 0, 1);
        tell("smash", 1, 1);
        tell("certify", 0);
        refuses(NO_ELEMENT, "certify", 0);
        answers(1, "certificates");
    }
}
