/** Promises 5 to 9: crates. */
final class CratesSentences extends Sentences {

    // ---- promise 5: pack

    @Says("Promise 5: Packs a disk into a crate.")
    void promise5PacksADisk() {
        bring(2, 0);
        tell("pack", 0, 9);
        answers(9, "crateOf", 0);
        answers(NONE, "crateOf", 1);
        answers(0, "keeperOf", 0);
        answers(2, "logged");
    }

    @Says("Promise 5: - `disk`: its number")
    void promise5DiskIsItsNumber() {
        takesEachDisk(disk -> { }, "pack", 9);
    }

    @Says("Promise 5: - `crate`: 0 to 9")
    void promise5CrateIs0To9() {
        bring(1, 0);
        for (int crate = 0; crate <= 9; crate++) {
            answers(1, "pack", 0, crate);
            answers(crate, "crateOf", 0);
            tell("unpack", 0);
        }
        for (int crate : NO_CRATES) {
            refuses(INDEX, "pack", 0, crate);
        }
    }

    @Says("Promise 5: Returns how many disks the crate has then.")
    void promise5Returns1To60() {
        bring(MOST_DISKS, 0);
        for (int disk = 0; disk < MOST_DISKS; disk++) {
            answers(disk + 1, "pack", disk, 3);
        }
    }

    @Says("Promise 5: Returns how many disks the crate has then.")
    void promise5ReturnsNotTheOtherCratesDisks() {
        bring(4, 0);
        answers(1, "pack", 0, 0);
        answers(1, "pack", 1, 1);
        answers(2, "pack", 2, 0);
        tell("unpack", 0);
        answers(2, "pack", 0, 1);
        answers(2, "pack", 3, 0);
    }

    @Says("Promise 5: Returns how many disks the crate has then.")
    void promise5ReturnsAlsoTheMissingOnes() {
        bring(3, 0);
        tell("pack", 0, 0);
        tell("lose", 0);
        answers(2, "pack", 1, 0);
        tell("find", 0);
        answers(3, "pack", 2, 0);
    }

    @Says("Promise 5: Throws `IndexOutOfBoundsException` if there is no such disk or crate")
    void promise5ThrowsIfThereIsNoSuchDisk() {
        refusesNoDisk("pack", 0);
    }

    @Says("Promise 5: Throws `IndexOutOfBoundsException` if there is no such disk or crate")
    void promise5ThrowsIfThereIsNoSuchCrate() {
        bring(1, 0);
        for (int crate : NO_CRATES) {
            refuses(INDEX, "pack", 0, crate);
            refuses(INDEX, "pack", 1, crate);
        }
    }

    private static final String PACK_STATE = "Promise 5: Throws `IllegalStateException` if the disk is missing, offered, "
            + "or in a crate, the crate is sealed, or its keeper is not that of the disk";

    @Says(PACK_STATE)
    void promise5ThrowsIfTheDiskIsMissing() {
        bring(1, 0);
        tell("lose", 0);
        refuses(STATE, "pack", 0, 0);
        tell("find", 0);
        answers(1, "pack", 0, 0);
    }

    @Says(PACK_STATE)
    void promise5ThrowsIfTheDiskIsOffered() {
        bring(1, 0);
        tell("offer", 0, 1);
        refuses(STATE, "pack", 0, 0);
        tell("answer", 0, false);
        answers(1, "pack", 0, 0);
    }

    @Says(PACK_STATE)
    void promise5ThrowsIfTheDiskIsInACrate() {
        bring(1, 0);
        tell("pack", 0, 0);
        for (int crate = 0; crate < CRATES; crate++) {
            refuses(STATE, "pack", 0, crate);
        }
        tell("unpack", 0);
        answers(1, "pack", 0, 9);
        refuses(STATE, "pack", 0, 9);
        refuses(STATE, "pack", 0, 0);
    }

    @Says(PACK_STATE)
    void promise5ThrowsIfTheCrateIsSealed() {
        bring(1, 0);
        tell("seal", 0);
        tell("seal", 9);
        refuses(STATE, "pack", 0, 0);
        refuses(STATE, "pack", 0, 9);
        tell("open", 0, 0);
        refuses(STATE, "pack", 0, 9);
        answers(1, "pack", 0, 0);
    }

    @Says(PACK_STATE)
    void promise5ThrowsIfItsKeeperIsNotThatOfTheDisk() {
        for (int keeper = 1; keeper < KEEPERS; keeper++) {
            anew();
            bring(1, keeper);
            refuses(STATE, "pack", 0, 4);
            tell("carry", 4, keeper);
            answers(1, "pack", 0, 4);
        }
    }

    @Says(PACK_STATE)
    void promise5ThrowsIfTheDiskWasTakenByAnother() {
        bring(1, 0);
        tell("offer", 0, 1);
        tell("answer", 0, true);
        refuses(STATE, "pack", 0, 0);
        tell("carry", 0, 1);
        answers(1, "pack", 0, 0);
    }

    // ---- promise 6: unpack

    @Says("Promise 6: Takes a disk out of its crate.")
    void promise6TakesADiskOut() {
        bring(2, 0);
        packAll(2, 5);
        tell("unpack", 0);
        answers(NONE, "crateOf", 0);
        answers(5, "crateOf", 1);
        answers(0, "keeperOf", 0);
        answers(2, "logged");
        answers(2, "pack", 0, 5);
    }

    @Says("Promise 6: - `disk`: its number")
    void promise6DiskIsItsNumber() {
        takesEachDisk(disk -> tell("pack", disk, 9), "unpack");
    }

    @Says("Promise 6: Returns the crate.")
    void promise6ReturnsCrates0To9() {
        bring(1, 0);
        for (int crate = 0; crate < CRATES; crate++) {
            tell("pack", 0, crate);
            answers(crate, "unpack", 0);
        }
    }

    @Says("Promise 6: Throws `IndexOutOfBoundsException` if there is no such disk")
    void promise6ThrowsIfThereIsNoSuchDisk() {
        refusesNoDisk("unpack");
    }

    @Says("Promise 6: Throws `IllegalStateException` if it is missing, or in no crate, or its crate is sealed")
    void promise6ThrowsIfItIsMissing() {
        bring(1, 0);
        tell("pack", 0, 0);
        tell("lose", 0);
        refuses(STATE, "unpack", 0);
        tell("find", 0);
        answers(0, "unpack", 0);
    }

    @Says("Promise 6: Throws `IllegalStateException` if it is missing, or in no crate, or its crate is sealed")
    void promise6ThrowsIfItIsInNoCrate() {
        bring(2, 0);
        tell("pack", 1, 0);
        refuses(STATE, "unpack", 0);
        tell("pack", 0, 0);
        tell("unpack", 0);
        refuses(STATE, "unpack", 0);
    }

    @Says("Promise 6: Throws `IllegalStateException` if it is missing, or in no crate, or its crate is sealed")
    void promise6ThrowsIfItsCrateIsSealed() {
        for (int crate : new int[] {0, 9}) {
            anew();
            bring(1, 0);
            tell("pack", 0, crate);
            tell("seal", crate);
            refuses(STATE, "unpack", 0);
            tell("open", crate, 1);
            answers(crate, "unpack", 0);
        }
    }

    // ---- promise 7: seal

    @Says("Promise 7: Seals a crate.")
    void promise7SealsACrate() {
        tell("seal", 4);
        for (int crate = 0; crate < CRATES; crate++) {
            answers(crate == 4 ? 0 : NONE, "sealOf", crate);
        }
        answers(0, "crateKeeper", 4);
    }

    @Says("Promise 7: - `crate`: 0 to 9")
    void promise7CrateIs0To9() {
        for (int crate = 0; crate <= 9; crate++) {
            anew();
            answers(0, "seal", crate);
            answers(0, "sealOf", crate);
        }
        refusesNoCrate("seal");
    }

    @Says("Promise 7: Returns the number of the seal.")
    void promise7ReturnsNumbersOverAllCrates() {
        for (int crate = 9; crate >= 0; crate--) {
            answers(9 - crate, "seal", crate);
            answers(9 - crate, "sealOf", crate);
        }
        tell("open", 4, 0);
        refuses(STATE, "seal", 5);
        answers(10, "seal", 4);
        answers(10, "sealOf", 4);
    }

    @Says("Promise 7: Throws `IndexOutOfBoundsException` if there is no such crate")
    void promise7ThrowsIfThereIsNoSuchCrate() {
        refusesNoCrate("seal");
        tell("seal", 0);
        refusesNoCrate("seal");
    }

    @Says("Promise 7: Throws `IllegalStateException` if it is sealed, or 100 seals were made")
    void promise7ThrowsIfItIsSealed() {
        for (int crate = 0; crate < CRATES; crate++) {
            tell("seal", crate);
            refuses(STATE, "seal", crate);
        }
        tell("carry", 9, 1);
        refuses(STATE, "seal", 9);
        tell("open", 9, 99);
        answers(10, "seal", 9);
    }

    @Says("Promise 7: Throws `IllegalStateException` if it is sealed, or 100 seals were made")
    void promise7ThrowsIf100SealsWereMade() {
        for (int seal = 0; seal < MOST_SEALS; seal++) {
            answers(seal, "seal", seal % CRATES);
            if (seal < MOST_SEALS - 1) {
                tell("open", seal % CRATES, 0);
            }
        }
        refuses(STATE, "seal", 0);
        answers(99, "sealOf", 9);
        tell("open", 9, 0);
        refuses(STATE, "seal", 9);
    }

    // ---- promise 8: open

    @Says("Promise 8: Opens a sealed crate.")
    void promise8OpensACrate() {
        bring(1, 0);
        tell("pack", 0, 3);
        tell("seal", 2);
        tell("seal", 3);
        tell("open", 3, 7);
        answers(NONE, "sealOf", 3);
        answers(0, "sealOf", 2);
        answers(3, "crateOf", 0);
        answers(0, "crateKeeper", 3);
        answers(3, "unpack", 0);
    }

    @Says("Promise 8: - `crate`: 0 to 9")
    void promise8CrateIs0To9() {
        for (int crate = 0; crate <= 9; crate++) {
            tell("seal", crate);
        }
        for (int crate = 0; crate <= 9; crate++) {
            answers(0, "open", crate, 0);
            answers(NONE, "sealOf", crate);
            answers(crate == 9 ? NONE : 9, "sealOf", 9);
        }
        refusesNoCrate("open", 0);
    }

    @Says("Promise 8: - `counted`: 0 to 99: how many disks were counted")
    void promise8CountedIs0To99() {
        bring(2, 0);
        packAll(2, 0);
        tell("seal", 0);
        for (int counted = 0; counted <= 99; counted++) {
            wouldAnswer(counted - 2, "open", 0, counted);
        }
        for (int counted : NO_COUNTS) {
            refuses(ARGUMENT, "open", 0, counted);
        }
    }

    private static final String OPEN_RETURNS =
            "Promise 8: Returns by how much that is above what the seal remembers, below 0 if it is less.";

    @Says(OPEN_RETURNS)
    void promise8ReturnsOfAnEmptyCrate() {
        tell("seal", 0);
        wouldAnswer(0, "open", 0, 0);
        wouldAnswer(1, "open", 0, 1);
        wouldAnswer(99, "open", 0, 99);
    }

    @Says(OPEN_RETURNS)
    void promise8ReturnsOfACrateWithOne() {
        bring(1, 0);
        tell("pack", 0, 0);
        tell("seal", 0);
        wouldAnswer(-1, "open", 0, 0);
        wouldAnswer(0, "open", 0, 1);
        wouldAnswer(1, "open", 0, 2);
    }

    @Says(OPEN_RETURNS)
    void promise8ReturnsOfAFullCrate() {
        bring(MOST_DISKS, 0);
        packAll(MOST_DISKS, 0);
        tell("seal", 0);
        wouldAnswer(-60, "open", 0, 0);
        wouldAnswer(-1, "open", 0, 59);
        wouldAnswer(0, "open", 0, 60);
        wouldAnswer(1, "open", 0, 61);
        wouldAnswer(39, "open", 0, 99);
    }

    @Says("Promise 8: Throws `IndexOutOfBoundsException` if there is no such crate")
    void promise8ThrowsIfThereIsNoSuchCrate() {
        refusesNoCrate("open", 0);
        tell("seal", 0);
        tell("seal", 9);
        refusesNoCrate("open", 0);
    }

    @Says("Promise 8: Throws `IllegalArgumentException` if counted is out of range")
    void promise8ThrowsIfCountedIsOutOfRange() {
        tell("seal", 0);
        for (int counted : NO_COUNTS) {
            refuses(ARGUMENT, "open", 0, counted);
        }
        answers(99, "open", 0, 99);
    }

    @Says("Promise 8: Throws `IllegalStateException` if it is open")
    void promise8ThrowsIfItIsOpen() {
        tell("seal", 5);
        for (int crate = 0; crate < CRATES; crate++) {
            if (crate != 5) {
                refuses(STATE, "open", crate, 0);
                refuses(STATE, "open", crate, 99);
            }
        }
        tell("open", 5, 0);
        refuses(STATE, "open", 5, 0);
    }

    // ---- promise 9: carry

    private static final String CARRIES =
            "Promise 9: Carries a crate to another keeper: a sealed one, or one without disks.";

    @Says(CARRIES)
    void promise9CarriesASealedOne() {
        bring(3, 0);
        packAll(2, 0);
        tell("pack", 2, 1);
        tell("seal", 0);
        tell("carry", 0, 5);
        answers(5, "crateKeeper", 0);
        answers(0, "crateKeeper", 1);
        answers(0, "sealOf", 0);
        answers(0, "crateOf", 0);
        answers(5, "keeperOf", 0);
        answers(5, "keeperOf", 1);
        answers(0, "keeperOf", 2);
        answers(5, "logged");
    }

    @Says(CARRIES)
    void promise9CarriesASealedOneWithoutDisks() {
        bring(1, 0);
        tell("seal", 3);
        answers(0, "carry", 3, 2);
        answers(2, "crateKeeper", 3);
        answers(0, "sealOf", 3);
        answers(1, "logged");
    }

    @Says(CARRIES)
    void promise9CarriesAnOpenOneWithoutDisks() {
        bring(1, 0);
        answers(0, "carry", 3, 2);
        answers(2, "crateKeeper", 3);
        answers(NONE, "sealOf", 3);
        answers(0, "keeperOf", 0);
        answers(1, "logged");
    }

    @Says("Promise 9: - `crate`: 0 to 9")
    void promise9CrateIs0To9() {
        for (int crate = 0; crate <= 9; crate++) {
            answers(0, "carry", crate, 7);
            for (int other = 0; other <= 9; other++) {
                answers(other <= crate ? 7 : 0, "crateKeeper", other);
            }
        }
        refusesNoCrate("carry", 1);
    }

    @Says("Promise 9: - `to`: 0 to 7")
    void promise9ToIs0To7() {
        for (int to = 1; to <= 7; to++) {
            answers(to - 1, "carry", 0, to);
            answers(to, "crateKeeper", 0);
        }
        answers(7, "carry", 0, 0);
        for (int to : NO_KEEPERS) {
            refuses(INDEX, "carry", 0, to);
        }
    }

    @Says("Promise 9: Returns its keeper before.")
    void promise9ReturnsItsKeeperBefore() {
        answers(0, "carry", 0, 7);
        answers(7, "carry", 0, 3);
        tell("seal", 0);
        answers(3, "carry", 0, 0);
        answers(0, "carry", 1, 2);
    }

    @Says("Promise 9: Throws `IndexOutOfBoundsException` if there is no such crate or keeper")
    void promise9ThrowsIfThereIsNoSuchCrate() {
        refusesNoCrate("carry", 1);
        refusesNoCrate("carry", 0);
    }

    @Says("Promise 9: Throws `IndexOutOfBoundsException` if there is no such crate or keeper")
    void promise9ThrowsIfThereIsNoSuchKeeper() {
        tell("seal", 1);
        for (int to : NO_KEEPERS) {
            refuses(INDEX, "carry", 0, to);
            refuses(INDEX, "carry", 1, to);
            refuses(INDEX, "carry", 10, to);
        }
    }

    @Says("Promise 9: Throws `IllegalArgumentException` if it is its keeper")
    void promise9ThrowsIfItIsItsKeeper() {
        for (int keeper = 0; keeper <= 7; keeper++) {
            refuses(ARGUMENT, "carry", 0, keeper);
            if (keeper < 7) {
                tell("carry", 0, keeper + 1);
            }
        }
        tell("seal", 0);
        refuses(ARGUMENT, "carry", 0, 7);
        refuses(ARGUMENT, "carry", 1, 0);
    }

    @Says("Promise 9: Throws `IllegalStateException` if it is open and has disks")
    void promise9ThrowsIfItIsOpenAndHasDisks() {
        bring(2, 0);
        tell("pack", 0, 9);
        refuses(STATE, "carry", 9, 1);
        tell("pack", 1, 9);
        refuses(STATE, "carry", 9, 7);
        tell("seal", 9);
        answers(0, "carry", 9, 7);
        tell("open", 9, 2);
        refuses(STATE, "carry", 9, 0);
        tell("unpack", 0);
        refuses(STATE, "carry", 9, 0);
        tell("unpack", 1);
        answers(7, "carry", 9, 0);
    }

    @Says("Promise 9: Throws `IllegalStateException` if it is open and has disks")
    void promise9ThrowsIfItIsOpenAndHasAMissingDisk() {
        bring(1, 0);
        tell("pack", 0, 0);
        tell("lose", 0);
        refuses(STATE, "carry", 0, 1);
        tell("seal", 0);
        answers(0, "carry", 0, 1);
    }
}
