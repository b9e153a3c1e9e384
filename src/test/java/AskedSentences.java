/** Promises 16 to 30: what is asked. */
final class AskedSentences extends Sentences {

    /** A disk with each keeper but 0, in the crate of the same number. */
    private void packOneForEach() {
        for (int keeper = 1; keeper < KEEPERS; keeper++) {
            tell("carry", keeper, keeper);
            bring(1, keeper);
            tell("pack", keeper - 1, keeper);
        }
    }

    // ---- promise 16: disks

    @Says("Promise 16: Returns how many disks were brought.")
    void promise16Disks0To60() {
        for (int disks = 0; disks < MOST_DISKS; disks++) {
            answers(disks, "disks");
            bring(1, disks % KEEPERS);
        }
        answers(60, "disks");
        refuses(STATE, "bring", 0, 0, 0);
        answers(60, "disks");
    }

    @Says("Promise 16: Returns how many disks were brought.")
    void promise16DisksWhateverBecameOfThem() {
        bring(3, 0);
        tell("lose", 0);
        tell("smash", 1, 1);
        tell("certify", 0);
        tell("pack", 2, 0);
        answers(3, "disks");
    }

    // ---- promise 17: keeperOf

    @Says("Promise 17: Returns the keeper of a disk.")
    void promise17KeeperOfABroughtDisk() {
        for (int keeper = 0; keeper < KEEPERS; keeper++) {
            bring(1, keeper);
        }
        for (int keeper = 0; keeper < KEEPERS; keeper++) {
            answers(keeper, "keeperOf", keeper);
        }
    }

    @Says("Promise 17: - `disk`: its number")
    void promise17DiskIsItsNumber() {
        takesEachDisk(disk -> { }, "keeperOf");
    }

    @Says("Promise 17: Returns the keeper.")
    void promise17TheKeeperChanges() {
        bring(2, 0);
        tell("offer", 0, 5);
        answers(0, "keeperOf", 0);
        tell("answer", 0, true);
        answers(5, "keeperOf", 0);
        tell("pack", 1, 0);
        tell("seal", 0);
        tell("carry", 0, 7);
        answers(7, "keeperOf", 1);
        tell("lose", 1);
        answers(7, "keeperOf", 1);
    }

    @Says("Promise 17: Throws `IndexOutOfBoundsException` if there is no such disk")
    void promise17ThrowsIfThereIsNoSuchDisk() {
        refusesNoDisk("keeperOf");
    }

    // ---- promise 18: keeperByLog

    @Says("Promise 18: Returns the same, from the log.")
    void promise18TheSameAsKeeperOf() {
        makeBusy();
        tell("find", 4);
        tell("carry", 2, 7);
        int[] keepers = {0, 1, 0, 7, 7, 3, 5, 0};
        for (int disk = 0; disk < keepers.length; disk++) {
            answers(keepers[disk], "keeperOf", disk);
            answers(keepers[disk], "keeperByLog", disk);
        }
    }

    @Says("Promise 18: - `disk`: its number")
    void promise18DiskIsItsNumber() {
        takesEachDisk(disk -> { }, "keeperByLog");
    }

    @Says("Promise 18: Returns the keeper.")
    void promise18TheKeeperByTheNewestEntry() {
        bring(2, 3);
        answers(3, "keeperByLog", 0);
        tell("offer", 0, 0);
        answers(3, "keeperByLog", 0);
        tell("answer", 0, true);
        answers(0, "keeperByLog", 0);
        tell("pack", 0, 0);
        tell("seal", 0);
        tell("carry", 0, 3);
        tell("carry", 0, 7);
        answers(7, "keeperByLog", 0);
        answers(3, "keeperByLog", 1);
    }

    @Says("Promise 18: Throws `IndexOutOfBoundsException` if there is no such disk")
    void promise18ThrowsIfThereIsNoSuchDisk() {
        refusesNoDisk("keeperByLog");
    }

    // ---- promise 19: crateOf

    @Says("Promise 19: Returns the crate of a disk.")
    void promise19CrateOfEachDisk() {
        packOneForEach();
        for (int disk = 0; disk < 7; disk++) {
            answers(disk + 1, "crateOf", disk);
        }
    }

    @Says("Promise 19: - `disk`: its number")
    void promise19DiskIsItsNumber() {
        takesEachDisk(disk -> { }, "crateOf");
    }

    @Says("Promise 19: Returns the crate; NONE if it is in none.")
    void promise19ReturnsCrates0To9() {
        bring(CRATES, 0);
        for (int crate = 0; crate < CRATES; crate++) {
            tell("pack", crate, crate);
        }
        for (int crate = 0; crate < CRATES; crate++) {
            answers(crate, "crateOf", crate);
            tell("seal", crate);
            answers(crate, "crateOf", crate);
        }
    }

    @Says("Promise 19: Returns the crate; NONE if it is in none.")
    void promise19ReturnsNoneIfItIsInNone() {
        bring(1, 0);
        answers(-1, "crateOf", 0);
        tell("pack", 0, 0);
        tell("unpack", 0);
        answers(-1, "crateOf", 0);
    }

    @Says("Promise 19: Throws `IndexOutOfBoundsException` if there is no such disk")
    void promise19ThrowsIfThereIsNoSuchDisk() {
        refusesNoDisk("crateOf");
    }

    // ---- promise 20: stateOf

    @Says("Promise 20: Returns what a disk is.")
    void promise20StateOfEachDisk() {
        bring(4, 0);
        tell("wipe", 1, 0, 1);
        tell("wipe", 2, 1, 1);
        tell("smash", 3, 1);
        for (int disk = 0; disk < 4; disk++) {
            answers(disk, "stateOf", disk);
        }
    }

    @Says("Promise 20: - `disk`: its number")
    void promise20DiskIsItsNumber() {
        takesEachDisk(disk -> { }, "stateOf");
    }

    @Says("Promise 20: Returns RAW, WIPED, SPOILED or BROKEN.")
    void promise20ReturnsWhatItIsByNow() {
        bring(1, 0);
        answers(RAW, "stateOf", 0);
        tell("wipe", 0, 1, 1);
        answers(SPOILED, "stateOf", 0);
        tell("wipe", 0, 0, 1);
        answers(WIPED, "stateOf", 0);
        tell("check", 0, 1, true);
        answers(WIPED, "stateOf", 0);
        tell("check", 0, 1, false);
        answers(SPOILED, "stateOf", 0);
        tell("smash", 0, 1);
        answers(BROKEN, "stateOf", 0);
    }

    @Says("Promise 20: Throws `IndexOutOfBoundsException` if there is no such disk")
    void promise20ThrowsIfThereIsNoSuchDisk() {
        refusesNoDisk("stateOf");
    }

    // ---- promise 21: isDone

    @Says("Promise 21: Tells whether a disk is done.")
    void promise21EachDiskIsDoneOrNot() {
        bring(5, 0);
        tell("smash", 0, 1);
        tell("wipe", 1, 1, 1);
        tell("wipe", 2, 0, 1);
        tell("check", 2, 1, true);
        tell("wipe", 3, 0, 1);
        for (int disk = 0; disk < 5; disk++) {
            answers(disk == 0 || disk == 2, "isDone", disk);
        }
    }

    @Says("Promise 21: - `disk`: its number")
    void promise21DiskIsItsNumber() {
        takesEachDisk(disk -> tell("smash", disk, 1), "isDone");
    }

    @Says("Promise 21: Returns whether it is.")
    void promise21ADoneDiskIsDoneMissingOrElsewhere() {
        bring(2, 0);
        tell("smash", 0, 1);
        tell("wipe", 1, 0, 1);
        tell("check", 1, 1, true);
        for (int disk = 0; disk < 2; disk++) {
            answers(true, "isDone", disk);
            tell("offer", disk, 1);
            answers(true, "isDone", disk);
            tell("lose", disk);
            answers(true, "isDone", disk);
            tell("find", disk);
            tell("pack", disk, disk);
            tell("seal", disk);
            answers(true, "isDone", disk);
        }
        tell("certify", 0);
        answers(true, "isDone", 0);
        answers(true, "isDone", 1);
    }

    @Says("Promise 21: Returns whether it is.")
    void promise21ADiskThatIsDoneNoMoreIsNotDone() {
        bring(1, 0);
        tell("wipe", 0, 0, 1);
        tell("check", 0, 1, true);
        tell("certify", 0);
        tell("check", 0, 1, false);
        answers(false, "isDone", 0);
        tell("wipe", 0, 0, 1);
        answers(false, "isDone", 0);
        tell("smash", 0, 1);
        answers(true, "isDone", 0);
    }

    @Says("Promise 21: Throws `IndexOutOfBoundsException` if there is no such disk")
    void promise21ThrowsIfThereIsNoSuchDisk() {
        refusesNoDisk("isDone");
    }

    // ---- promise 22: offeredTo

    @Says("Promise 22: Returns the keeper to whom a disk is offered.")
    void promise22OfferedToEachKeeper() {
        for (int keeper = 0; keeper < KEEPERS; keeper++) {
            bring(1, keeper);
            tell("offer", keeper, (keeper + 1) % KEEPERS);
        }
        for (int keeper = 0; keeper < KEEPERS; keeper++) {
            answers((keeper + 1) % KEEPERS, "offeredTo", keeper);
        }
    }

    @Says("Promise 22: - `disk`: its number")
    void promise22DiskIsItsNumber() {
        takesEachDisk(disk -> { }, "offeredTo");
    }

    @Says("Promise 22: Returns the keeper; NONE if it is not offered.")
    void promise22ReturnsNoneIfItIsNotOffered() {
        bring(1, 3);
        answers(-1, "offeredTo", 0);
        for (boolean takes : new boolean[] {false, true}) {
            tell("offer", 0, 0);
            answers(0, "offeredTo", 0);
            tell("answer", 0, takes);
            answers(-1, "offeredTo", 0);
        }
        tell("offer", 0, 7);
        tell("lose", 0);
        answers(-1, "offeredTo", 0);
    }

    @Says("Promise 22: Throws `IndexOutOfBoundsException` if there is no such disk")
    void promise22ThrowsIfThereIsNoSuchDisk() {
        refusesNoDisk("offeredTo");
    }

    // ---- promise 23: certificateOf

    @Says("Promise 23: Returns the certificate of a disk.")
    void promise23CertificateOfEachDisk() {
        for (int keeper = 0; keeper < KEEPERS; keeper++) {
            bring(1, keeper);
            tell("smash", keeper, (keeper + 1) % KEEPERS);
        }
        for (int keeper = 7; keeper >= 0; keeper--) {
            tell("certify", keeper);
        }
        for (int keeper = 0; keeper < KEEPERS; keeper++) {
            answers(7 - keeper, "certificateOf", keeper);
        }
    }

    @Says("Promise 23: - `disk`: its number")
    void promise23DiskIsItsNumber() {
        takesEachDisk(disk -> { }, "certificateOf");
    }

    @Says("Promise 23: Returns the number of the certificate; NONE if it is on none.")
    void promise23ReturnsNoneIfItIsOnNone() {
        bring(2, 0);
        answers(-1, "certificateOf", 0);
        tell("smash", 0, 1);
        answers(-1, "certificateOf", 0);
        tell("certify", 0);
        answers(0, "certificateOf", 0);
        answers(-1, "certificateOf", 1);
    }

    @Says("Promise 23: Throws `IndexOutOfBoundsException` if there is no such disk")
    void promise23ThrowsIfThereIsNoSuchDisk() {
        refusesNoDisk("certificateOf");
    }

    // ---- promise 24: crateKeeper

    @Says("Promise 24: Returns the keeper of a crate.")
    void promise24KeeperOfEachCrate() {
        packOneForEach();
        int[] keepers = {0, 1, 2, 3, 4, 5, 6, 7, 0, 0};
        for (int crate = 0; crate < CRATES; crate++) {
            answers(keepers[crate], "crateKeeper", crate);
        }
    }

    @Says("Promise 24: - `crate`: 0 to 9")
    void promise24CrateIs0To9() {
        for (int crate = 0; crate <= 9; crate++) {
            answers(0, "crateKeeper", crate);
        }
        refusesNoCrate("crateKeeper");
    }

    @Says("Promise 24: Returns the keeper.")
    void promise24TheKeeperChanges() {
        for (int keeper = 1; keeper < KEEPERS; keeper++) {
            tell("carry", 9, keeper);
            answers(keeper, "crateKeeper", 9);
            answers(0, "crateKeeper", 8);
        }
        tell("seal", 9);
        tell("carry", 9, 0);
        answers(0, "crateKeeper", 9);
        tell("open", 9, 0);
        answers(0, "crateKeeper", 9);
    }

    @Says("Promise 24: Throws `IndexOutOfBoundsException` if there is no such crate")
    void promise24ThrowsIfThereIsNoSuchCrate() {
        refusesNoCrate("crateKeeper");
    }

    // ---- promise 25: sealOf

    @Says("Promise 25: Returns the seal of a crate.")
    void promise25SealOfEachCrate() {
        for (int crate = 9; crate >= 0; crate--) {
            tell("seal", crate);
        }
        for (int crate = 0; crate < CRATES; crate++) {
            answers(9 - crate, "sealOf", crate);
        }
    }

    @Says("Promise 25: - `crate`: 0 to 9")
    void promise25CrateIs0To9() {
        for (int crate = 0; crate <= 9; crate++) {
            answers(NONE, "sealOf", crate);
        }
        refusesNoCrate("sealOf");
    }

    @Says("Promise 25: Returns the number of the seal; NONE if it is open.")
    void promise25ReturnsNoneIfItIsOpen() {
        answers(-1, "sealOf", 0);
        tell("seal", 0);
        answers(0, "sealOf", 0);
        answers(-1, "sealOf", 1);
        tell("carry", 0, 1);
        answers(0, "sealOf", 0);
        tell("open", 0, 0);
        answers(-1, "sealOf", 0);
        tell("seal", 0);
        answers(1, "sealOf", 0);
    }

    @Says("Promise 25: Throws `IndexOutOfBoundsException` if there is no such crate")
    void promise25ThrowsIfThereIsNoSuchCrate() {
        refusesNoCrate("sealOf");
    }

    // ---- promise 26: has

    @Says("Promise 26: Returns how many disks a keeper has, missing ones included.")
    void promise26HasMissingOnesIncluded() {
        bring(3, 5);
        tell("lose", 0);
        answers(3, "has", 5);
        tell("lose", 1);
        tell("lose", 2);
        answers(3, "has", 5);
        tell("find", 0);
        answers(3, "has", 5);
    }

    @Says("Promise 26: - `keeper`: 0 to 7")
    void promise26KeeperIs0To7() {
        for (int keeper = 0; keeper <= 7; keeper++) {
            bring(keeper, keeper);
        }
        for (int keeper = 0; keeper <= 7; keeper++) {
            answers(keeper, "has", keeper);
        }
        for (int keeper : NO_KEEPERS) {
            refuses(INDEX, "has", keeper);
        }
    }

    @Says("Promise 26: Returns how many.")
    void promise26Returns0To60() {
        for (int disks = 0; disks < MOST_DISKS; disks++) {
            answers(disks, "has", 7);
            bring(1, 7);
        }
        answers(60, "has", 7);
        answers(0, "has", 6);
    }

    @Says("Promise 26: Returns how many.")
    void promise26ReturnsWhatOffersAndCratesMoved() {
        bring(4, 0);
        tell("offer", 0, 1);
        answers(4, "has", 0);
        answers(0, "has", 1);
        tell("answer", 0, true);
        answers(3, "has", 0);
        answers(1, "has", 1);
        tell("pack", 1, 2);
        tell("pack", 2, 2);
        tell("lose", 2);
        tell("seal", 2);
        tell("carry", 2, 1);
        answers(1, "has", 0);
        answers(3, "has", 1);
    }

    @Says("Promise 26: Throws `IndexOutOfBoundsException` if there is no such keeper")
    void promise26ThrowsIfThereIsNoSuchKeeper() {
        for (int keeper : NO_KEEPERS) {
            refuses(INDEX, "has", keeper);
        }
        bring(1, 7);
        for (int keeper : NO_KEEPERS) {
            refuses(INDEX, "has", keeper);
        }
    }

    // ---- promises 27 to 30: counts

    @Says("Promise 27: Returns how many disks are missing.")
    void promise27Missing0To60() {
        bring(MOST_DISKS, 0);
        for (int missing = 0; missing < MOST_DISKS; missing++) {
            answers(missing, "missing");
            tell("lose", missing);
        }
        answers(60, "missing");
        for (int found = 0; found < MOST_DISKS; found++) {
            tell("find", found);
            answers(59 - found, "missing");
        }
    }

    @Says("Promise 28: Returns how many crates were opened with another count than the seal remembered, so far.")
    void promise28OddCountsAboveAndBelow() {
        bring(2, 0);
        packAll(2, 0);
        int[] counted = {2, 1, 3, 2, 0, 99, 2};
        int[] due = {0, 1, 2, 2, 3, 4, 4};
        for (int i = 0; i < counted.length; i++) {
            tell("seal", 0);
            tell("open", 0, counted[i]);
            answers(due[i], "oddCounts");
        }
    }

    @Says("Promise 28: Returns how many crates were opened with another count than the seal remembered, so far.")
    void promise28OddCounts0To100() {
        for (int seal = 0; seal < MOST_SEALS; seal++) {
            tell("seal", seal % CRATES);
            answers(seal, "oddCounts");
            tell("open", seal % CRATES, 1);
        }
        answers(100, "oddCounts");
    }

    @Says("Promise 29: Returns how many entries the log has.")
    void promise29LoggedAfterEachCall() {
        answers(0, "logged");
        bring(3, 0);
        answers(3, "logged");
        tell("offer", 0, 1);
        answers(3, "logged");
        tell("answer", 0, false);
        answers(3, "logged");
        tell("offer", 0, 1);
        tell("answer", 0, true);
        answers(4, "logged");
        tell("pack", 1, 0);
        tell("pack", 2, 0);
        tell("seal", 0);
        answers(4, "logged");
        tell("carry", 0, 1);
        answers(6, "logged");
        tell("lose", 1);
        tell("carry", 0, 2);
        answers(8, "logged");
        tell("open", 0, 2);
        tell("find", 1);
        tell("unpack", 1);
        tell("wipe", 1, 0, 0);
        tell("check", 1, 0, true);
        tell("certify", 2);
        tell("carry", 9, 7);
        answers(8, "logged");
    }

    @Says("Promise 30: Returns how many certificates were made.")
    void promise30Certificates0To60() {
        bring(MOST_DISKS, 0);
        for (int disk = 0; disk < MOST_DISKS; disk++) {
            answers(disk, "certificates");
            tell("smash", disk, 1);
            answers(disk, "certificates");
            tell("certify", 0);
        }
        answers(60, "certificates");
    }

    @Says("Promise 30: Returns how many certificates were made.")
    void promise30CertificatesNotThoseThatWereRefused() {
        bring(1, 0);
        refuses(NO_ELEMENT, "certify", 0);
        answers(0, "certificates");
        tell("smash", 0, 1);
        tell("certify", 0);
        refuses(NO_ELEMENT, "certify", 0);
        answers(1, "certificates");
    }
}
