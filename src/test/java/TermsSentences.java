/** "Terms": disks, crates, hands, the log and the constants; and, of "What it is", how long an object is used. */
final class TermsSentences extends Sentences {

    // ---- how long an object is used

    private static final String USED =
            "What it is: An object is used for at most 512 calls after it has been made; what later calls answer is free.";

    @Says(USED)
    void used512CallsThatCarryAFullCrate() {
        bring(MOST_DISKS, 0);
        packAll(MOST_DISKS, 0);
        tell("seal", 0);
        for (int carried = 1; carried <= 390; carried++) {
            tell("carry", 0, carried % 2);
        }
        same("calls before the last one", run().calls(), 511);
        wouldAnswer(60 + 390 * 60, "logged");
        wouldAnswer(0, "keeperByLog", 0);
        wouldAnswer(0, "keeperByLog", 59);
        wouldAnswer(60, "has", 0);
        answers(0, "carry", 0, 7);
    }

    @Says(USED)
    void used512CallsThatHandADiskOn() {
        bring(1, 0);
        for (int hand = 1; hand <= 255; hand++) {
            answers((hand - 1) % KEEPERS, "offer", 0, hand % KEEPERS);
            answers(hand % KEEPERS, "answer", 0, true);
        }
        same("calls before the last one", run().calls(), 511);
        wouldAnswer(256, "logged");
        wouldAnswer(7, "keeperByLog", 0);
        answers(7, "keeperOf", 0);
    }

    @Says(USED)
    void used512CallsThatAreAskedOrRefused() {
        for (int pair = 1; pair <= 255; pair++) {
            answers(0, "disks");
            answers(STATE, "open", 0, 0);
        }
        answers(0, "logged");
        same("calls before the last one", run().calls(), 511);
        answers(0, "bring", 0, 0, 0);
    }

    @Says(USED)
    void used512CallsThatAskForEachDisk() {
        for (int disk = 0; disk < MOST_DISKS; disk++) {
            tell("bring", 0, 0, disk % 7);
        }
        for (int asked = 0; asked < 451; asked++) {
            answers(asked % MOST_DISKS % 7, "keeperOf", asked % MOST_DISKS);
        }
        same("calls before the last one", run().calls(), 511);
        answers(2, "offer", 9, 7);
    }

    // ---- what is told and asked

    @Says("Terms: What is done with disks and crates is told; keepers, crates, states, counts and certificates are asked, "
            + "which changes nothing.")
    void termsAskingChangesNothing() {
        makeBusy();
        same("all after asking all", run().eachAlone(true), run().eachAlone(false));
    }

    @Says("Terms: There are the keepers 0 to 7, who can also be doers and witnesses, and the crates 0 to 9.")
    void termsKeepersAre0To7AlsoAsDoersAndWitnesses() {
        for (int keeper = 0; keeper <= 7; keeper++) {
            anew();
            bring(1, keeper);
            tell("wipe", 0, 0, 7 - keeper);
            answers(WIPED, "check", 0, 7 - keeper, true);
            answers(WIPED, "smash", 0, 7 - keeper);
            answers(1, "certify", keeper);
            answers(1, "has", keeper);
        }
    }

    @Says("Terms: There are the keepers 0 to 7, who can also be doers and witnesses, and the crates 0 to 9.")
    void termsNoOtherKeepers() {
        bringWiped();
        for (int keeper : NO_KEEPERS) {
            refuses(INDEX, "bring", 0, 0, keeper);
            refuses(INDEX, "offer", 0, keeper);
            refuses(INDEX, "carry", 0, keeper);
            refuses(INDEX, "wipe", 0, 0, keeper);
            refuses(INDEX, "smash", 0, keeper);
            refuses(INDEX, "check", 0, keeper, true);
            refuses(INDEX, "certify", keeper);
            refuses(INDEX, "has", keeper);
        }
    }

    @Says("Terms: There are the keepers 0 to 7, who can also be doers and witnesses, and the crates 0 to 9.")
    void termsCratesAre0To9() {
        bring(1, 0);
        for (int crate = 0; crate <= 9; crate++) {
            answers(1, "pack", 0, crate);
            answers(crate, "seal", crate);
            answers(0, "open", crate, 1);
            answers(crate, "unpack", 0);
            answers(0, "carry", crate, 1);
        }
        for (int crate : NO_CRATES) {
            refuses(INDEX, "pack", 0, crate);
            refuses(INDEX, "seal", crate);
            refuses(INDEX, "open", crate, 0);
            refuses(INDEX, "carry", crate, 1);
            refuses(INDEX, "crateKeeper", crate);
            refuses(INDEX, "sealOf", crate);
        }
    }

    @Says("Terms: Disks are numbered from 0 on; at most 60 are brought.")
    void termsDisksAreNumbered0To59() {
        for (int disk = 0; disk < 60; disk++) {
            answers(disk, "bring", 0, 0, 0);
        }
        refuses(STATE, "bring", 0, 0, 0);
        answers(60, "disks");
    }

    @Says("Terms: A disk has a kind, 0 spinning, 1 flash, 2 tape, and a secrecy, 0 to 3.")
    void termsKindsAre0To2AndSecreciesAre0To3() {
        int disk = 0;
        for (int kind = 0; kind <= 2; kind++) {
            for (int secrecy = 0; secrecy <= 3; secrecy++) {
                answers(disk++, "bring", kind, secrecy, 0);
            }
        }
        for (int none : NO_KINDS) {
            refuses(ARGUMENT, "bring", none, 0, 0);
        }
        for (int none : NO_SECRECIES) {
            refuses(ARGUMENT, "bring", 0, none, 0);
        }
    }

    @Says("Terms: A disk is at any time with one keeper, and in one crate or in none.")
    void termsADiskIsWithOneKeeper() {
        bring(3, 2);
        hasIsInAll(3);
        tell("offer", 0, 5);
        hasIsInAll(3);
        tell("answer", 0, true);
        hasIsInAll(3);
        tell("carry", 8, 2);
        tell("pack", 1, 8);
        tell("lose", 1);
        tell("seal", 8);
        hasIsInAll(3);
        tell("carry", 8, 7);
        hasIsInAll(3);
        tell("open", 8, 0);
        tell("find", 1);
        tell("unpack", 1);
        hasIsInAll(3);
    }

    private void hasIsInAll(int disks) {
        int all = 0;
        for (int keeper = 0; keeper < KEEPERS; keeper++) {
            all += (Integer) run().answerOf(Call.of("has", keeper));
        }
        same("all that all keepers have", all, disks);
    }

    @Says("Terms: A disk is at any time with one keeper, and in one crate or in none.")
    void termsADiskIsInOneCrateOrInNone() {
        bring(1, 0);
        answers(NONE, "crateOf", 0);
        tell("pack", 0, 3);
        answers(3, "crateOf", 0);
        refuses(STATE, "pack", 0, 4);
        tell("unpack", 0);
        answers(NONE, "crateOf", 0);
        tell("pack", 0, 4);
        tell("seal", 3);
        answers(0, "open", 3, 0);
        tell("seal", 4);
        answers(0, "open", 4, 1);
    }

    @Says("Terms: It is raw, wiped, spoiled or broken, and raw at first.")
    void termsItIsRawAtFirst() {
        for (int kind = 0; kind <= 2; kind++) {
            for (int secrecy = 0; secrecy <= 3; secrecy++) {
                anew();
                tell("bring", kind, secrecy, 0);
                answers(RAW, "stateOf", 0);
                answers(RAW, "smash", 0, 1);
            }
        }
    }

    // ---- missing disks

    private static final String MISSING = "Terms: It may be missing; nothing can be done with a missing disk but finding it, "
            + "and counting it where it should be.";

    @Says(MISSING)
    void termsNothingCanBeDoneWithAMissingDisk() {
        bringWiped();
        tell("lose", 0);
        refuses(STATE, "offer", 0, 1);
        refuses(STATE, "answer", 0, true);
        refuses(STATE, "pack", 0, 0);
        refuses(STATE, "unpack", 0);
        refuses(STATE, "wipe", 0, 0, 1);
        refuses(STATE, "smash", 0, 1);
        refuses(STATE, "check", 0, 1, true);
        refuses(STATE, "lose", 0);
        answers(NONE, "find", 0);
    }

    @Says(MISSING)
    void termsAMissingDiskIsNotCertified() {
        bring(2, 0);
        tell("smash", 0, 1);
        tell("smash", 1, 1);
        tell("lose", 0);
        answers(1, "certify", 0);
        answers(NONE, "certificateOf", 0);
        answers(0, "certificateOf", 1);
    }

    @Says(MISSING)
    void termsAMissingDiskIsCountedWhereItShouldBe() {
        bring(2, 0);
        tell("pack", 0, 0);
        tell("lose", 0);
        answers(2, "has", 0);
        answers(2, "disks");
        answers(2, "pack", 1, 0);
        tell("seal", 0);
        answers(0, "open", 0, 2);
        answers(0, "oddCounts");
    }

    @Says(MISSING)
    void termsItMayBeMissingInEachState() {
        bring(4, 0);
        tell("wipe", 1, 0, 1);
        tell("wipe", 2, 1, 1);
        tell("smash", 3, 1);
        for (int disk = 0; disk < 4; disk++) {
            answers(0, "lose", disk);
            answers(disk, "stateOf", disk);
            answers(NONE, "find", disk);
            answers(disk, "stateOf", disk);
        }
    }

    // ---- crates

    @Says("Terms: A crate has a keeper, 0 at first for all, and is open or sealed; all are open at first.")
    void termsCratesAreWithKeeper0AndOpenAtFirst() {
        for (int crate = 0; crate <= 9; crate++) {
            answers(0, "crateKeeper", crate);
            answers(NONE, "sealOf", crate);
            refuses(STATE, "open", crate, 0);
            refuses(ARGUMENT, "carry", crate, 0);
        }
    }

    @Says("Terms: Disks in it are with its keeper.")
    void termsDisksInACrateAreWithItsKeeper() {
        bring(2, 3);
        refuses(STATE, "pack", 0, 6);
        tell("carry", 6, 3);
        tell("pack", 0, 6);
        tell("pack", 1, 6);
        tell("lose", 1);
        tell("seal", 6);
        for (int keeper = 0; keeper < KEEPERS; keeper++) {
            if (keeper != 3) {
                tell("carry", 6, keeper);
                answers(keeper, "crateKeeper", 6);
                answers(keeper, "keeperOf", 0);
                answers(keeper, "keeperOf", 1);
            }
        }
        refuses(STATE, "offer", 0, 1);
    }

    @Says("Terms: A disk that is in a sealed crate cannot be offered, taken out, wiped, broken or checked.")
    void termsADiskInASealedCrateCannotBeTouched() {
        bring(2, 0);
        tell("wipe", 1, 0, 1);
        packAll(2, 0);
        tell("seal", 0);
        for (int disk = 0; disk < 2; disk++) {
            refuses(STATE, "offer", disk, 1);
            refuses(STATE, "unpack", disk);
            refuses(STATE, "wipe", disk, 0, 1);
            refuses(STATE, "smash", disk, 1);
            refuses(STATE, "check", disk, 1, true);
        }
    }

    @Says("Terms: A disk that is in a sealed crate cannot be offered, taken out, wiped, broken or checked.")
    void termsADiskInAnOpenCrateCanBeTouched() {
        bring(2, 0);
        tell("wipe", 1, 0, 1);
        packAll(2, 0);
        tell("seal", 0);
        tell("open", 0, 2);
        wouldAnswer(0, "unpack", 0);
        wouldAnswer(WIPED, "wipe", 0, 0, 1);
        wouldAnswer(RAW, "smash", 0, 1);
        wouldAnswer(WIPED, "check", 1, 1, true);
    }

    private static final String SEALS =
            "Terms: Seals are numbered from 0 on, over all crates; a seal remembers how many disks were in the crate.";

    @Says(SEALS)
    void termsSealsAreNumberedOverAllCrates() {
        answers(0, "seal", 7);
        answers(1, "seal", 0);
        tell("open", 7, 0);
        answers(2, "seal", 9);
        answers(3, "seal", 7);
        tell("open", 0, 5);
        answers(4, "seal", 0);
        answers(3, "sealOf", 7);
    }

    @Says(SEALS)
    void termsASealRemembersHowManyDisksWereInTheCrate() {
        bring(4, 0);
        for (int disks = 0; disks < 4; disks++) {
            tell("seal", 1);
            answers(-disks, "open", 1, 0);
            tell("pack", disks, 1);
        }
        tell("seal", 1);
        tell("seal", 2);
        answers(0, "open", 2, 0);
        tell("lose", 0);
        tell("carry", 1, 5);
        answers(-4, "open", 1, 0);
        tell("unpack", 1);
        tell("seal", 1);
        answers(-3, "open", 1, 0);
    }

    @Says("Terms: A sealed crate is opened by counting: what is counted is compared with what the seal remembers.")
    void termsACrateIsOpenedWhateverWasCounted() {
        bring(1, 0);
        tell("pack", 0, 0);
        int odd = 0;
        for (int counted : new int[] {0, 1, 2, 99}) {
            tell("seal", 0);
            answers(counted - 1, "open", 0, counted);
            answers(NONE, "sealOf", 0);
            odd += counted == 1 ? 0 : 1;
            answers(odd, "oddCounts");
        }
    }

    // ---- hands

    private static final String HANDS = "Terms: The keeper of a disk that is in no crate offers it to another one, who takes "
            + "it or sends it back; until then it is still with the first one.";

    @Says(HANDS)
    void termsAnOfferedDiskIsStillWithTheFirstOne() {
        bring(1, 3);
        tell("offer", 0, 4);
        answers(3, "keeperOf", 0);
        answers(3, "keeperByLog", 0);
        answers(1, "has", 3);
        answers(0, "has", 4);
        wouldAnswer(4, "answer", 0, true);
        wouldAnswer(3, "answer", 0, false);
    }

    @Says(HANDS)
    void termsADiskInACrateIsNotOffered() {
        bring(1, 0);
        tell("pack", 0, 0);
        refuses(STATE, "offer", 0, 1);
        tell("unpack", 0);
        answers(0, "offer", 0, 1);
    }

    private static final String OFFERED =
            "Terms: A disk that is offered can be neither offered nor packed, wiped, broken or checked until that.";

    @Says(OFFERED)
    void termsAnOfferedDiskCannotBeTouched() {
        bring(2, 0);
        tell("wipe", 1, 0, 1);
        for (int disk = 0; disk < 2; disk++) {
            tell("offer", disk, 2);
            refuses(STATE, "offer", disk, 1);
            refuses(STATE, "offer", disk, 2);
            refuses(STATE, "pack", disk, 0);
            refuses(STATE, "unpack", disk);
            refuses(STATE, "wipe", disk, 0, 1);
            refuses(STATE, "smash", disk, 1);
            refuses(STATE, "check", disk, 1, true);
        }
    }

    @Says(OFFERED)
    void termsAnAnsweredDiskCanBeTouchedAgain() {
        bring(2, 0);
        tell("wipe", 1, 0, 1);
        for (int disk = 0; disk < 2; disk++) {
            tell("offer", disk, 2);
            tell("answer", disk, false);
            wouldAnswer(0, "offer", disk, 1);
            wouldAnswer(1, "pack", disk, 0);
            wouldAnswer(disk == 0 ? WIPED : (Object) STATE, "wipe", disk, 0, 1);
            wouldAnswer(disk, "smash", disk, 1);
            wouldAnswer(disk == 0 ? STATE : (Object) WIPED, "check", disk, 1, true);
        }
    }

    @Says(OFFERED)
    void termsAnOfferedDiskCanBeCertifiedAndLost() {
        bring(1, 0);
        tell("smash", 0, 1);
        tell("offer", 0, 2);
        answers(1, "certify", 0);
        answers(2, "offeredTo", 0);
        answers(0, "lose", 0);
    }

    @Says("Terms: A sealed crate is carried to another keeper with all that is in it.")
    void termsASealedCrateIsCarriedWithAllThatIsInIt() {
        bring(5, 0);
        for (int disk = 0; disk < 4; disk++) {
            tell("pack", disk, disk == 3 ? 1 : 0);
        }
        tell("lose", 1);
        tell("seal", 0);
        tell("lose", 2);
        tell("carry", 0, 6);
        for (int disk = 0; disk < 5; disk++) {
            answers(disk < 3 ? 6 : 0, "keeperOf", disk);
            answers(disk < 3 ? 6 : 0, "keeperByLog", disk);
            answers(disk < 3 ? 0 : disk == 3 ? 1 : NONE, "crateOf", disk);
        }
        answers(3, "has", 6);
        answers(2, "missing");
        answers(8, "logged");
        answers(0, "open", 0, 3);
    }

    // ---- the log

    private static final String LOG = "Terms: The log has an entry for each change of a disk's keeper: bringing it, taking it "
            + "when it was offered, and carrying its crate.";

    @Says(LOG)
    void termsTheLogHasAnEntryForBringing() {
        for (int disk = 0; disk < MOST_DISKS; disk++) {
            answers(disk, "logged");
            tell("bring", 0, 0, disk % KEEPERS);
            answers(disk % KEEPERS, "keeperByLog", disk);
        }
        answers(60, "logged");
    }

    @Says(LOG)
    void termsTheLogHasAnEntryForTakingNotForOfferingOrSendingBack() {
        bring(1, 0);
        tell("offer", 0, 1);
        answers(1, "logged");
        tell("answer", 0, false);
        answers(1, "logged");
        tell("offer", 0, 1);
        tell("answer", 0, true);
        answers(2, "logged");
        answers(1, "keeperByLog", 0);
    }

    @Says(LOG)
    void termsTheLogHasAnEntryForEachDiskInACarriedCrate() {
        for (int disks : new int[] {0, 1, 2, MOST_DISKS}) {
            anew();
            bring(disks, 0);
            packAll(disks, 0);
            tell("seal", 0);
            tell("carry", 0, 1);
            answers(disks * 2, "logged");
            tell("carry", 0, 0);
            answers(disks * 3, "logged");
        }
    }

    // ---- the constants

    @Says("Terms: The constants: `NONE = -1`: There is none.")
    void termsNoneIsMinus1() {
        same("NONE", Shredroll.NONE, -1);
        bring(1, 0);
        answers(-1, "crateOf", 0);
        answers(-1, "offeredTo", 0);
        answers(-1, "certificateOf", 0);
        answers(-1, "sealOf", 0);
        tell("lose", 0);
        answers(-1, "find", 0);
    }

    @Says("Terms: `RAW = 0, WIPED = 1, SPOILED = 2, BROKEN = 3`: What a disk is.")
    void termsWhatADiskIsIs0To3() {
        same("RAW", Shredroll.RAW, 0);
        same("WIPED", Shredroll.WIPED, 1);
        same("SPOILED", Shredroll.SPOILED, 2);
        same("BROKEN", Shredroll.BROKEN, 3);
        bring(4, 0);
        answers(1, "wipe", 1, 0, 1);
        answers(2, "wipe", 2, 1, 1);
        tell("smash", 3, 1);
        for (int disk = 0; disk < 4; disk++) {
            answers(disk, "stateOf", disk);
        }
    }
}
