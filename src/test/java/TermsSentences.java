import java.util.ArrayList;
import java.util.List;

/** The sentences of "Terms", which hold for all promises, and the one of "What it is" on how long an object is used. */
final class TermsSentences extends Sentences {

    // ---- how long an object is used

    private static final String USED =
            "What it is: An object is used for at most 512 calls after it has been made; what later calls answer is free.";

    @Says(USED)
    void used512CallsThatCarryAFullCrate() {
        bring(MOST_DISKS, 0);
        packAll(MOST_DISKS, 0);
        tell("seal", 0);
        for (int carried = 1; carried <= 390; carried++) {
            tell("carry", 0, carried % 2);
        }
        same("calls before the last one", run().calls(), 511);
        wouldAnswer(60 + 390 * 60, "logged");
        wouldAnswer(0, "keeperByLog", 0);
        wouldAnswer(0, "keeperByLog", 59);
        wouldAnswer(60, "has", 0);
        answers(0, "carry", 0, 7);
    }

    @Says(USED)
    void used512CallsThatHandADiskOn() {
        bring(1, 0);
        for (int hand = 1; hand <= 255; hand++) {
            answers((hand - 1) % KEEPERS, "offer", 0, hand % KEEPERS);
            answers(hand % KEEPERS, "answer", 0, true);
        }
        same("calls before the last one", run().calls(), 511);
        wouldAnswer(256, "logged");
        wouldAnswer(7, "keeperByLog", 0);
        answers(7, "keeperOf", 0);
    }

    @Says(USED)
    void used512CallsThatAreAskedOrRefused() {
        for (int pair = 1; pair <= 255; pair++) {
            answers(0, "disks");
            answers(STATE, "open", 0, 0);
        }
        answers(0, "logged");
        same("calls before the last one", run().calls(), 511);
        answers(0, "bring", 0, 0, 0);
    }

    // ---- what is told and asked

    @Says("Terms: What is done with disks and crates is told; keepers, crates, states, counts and certificates are asked, "
            + "which changes nothing.")
    void termsAskingChangesNothing() {
        makeBusy();
        List<Object> before = run().sight();
        same("all after asking all", run().sightAfterAskingAll(), before);
    }

    @Says("Terms: There are the keepers 0 to 7, who can also be doers and witnesses, and the crates 0 to 9.")
    void termsKeepersAre0To7AlsoAsDoersAndWitnesses() {
        for (int keeper = 0; keeper <= 7; keeper++) {
            anew();
            bring(1, keeper);
            tell("wipe", 0, 0, 7 - keeper);
            answers(WIPED, "check", 0, 7 - keeper, true);
            answers(WIPED, "smash", 0, 7 - keeper);
            answers(1, "certify", keeper);
            answers(1, "has", keeper);
        }
    }

    @Says("Terms: There are the keepers 0 to 7, who can also be doers and witnesses, and the crates 0 to 9.")
    void termsNoOtherKeepers() {
        bringWiped();
        for (int keeper : NO_KEEPERS) {
            refuses(INDEX, "bring", 0, 0, keeper);
            refuses(INDEX, "offer", 0, keeper);
            refuses(INDEX, "carry", 0, keeper);
            refuses(INDEX, "wipe", 0, 0, keeper);
            refuses(INDEX, "smash", 0, keeper);
            refuses(INDEX, "check", 0, keeper, true);
            refuses(INDEX, "certify", keeper);
            refuses(INDEX, "has", keeper);
        }
    }

    @Says("Terms: There are the keepers 0 to 7, who can also be doers and witnesses, and the crates 0 to 9.")
    void termsCratesAre0To9() {
        bring(1, 0);
        for (int crate = 0; crate <= 9; crate++) {
            answers(1, "pack", 0, crate);
            answers(crate, "seal", crate);
            answers(0, "open", crate, 1);
            answers(crate, "unpack", 0);
            answers(0, "carry", crate, 1);
        }
        for (int crate : NO_CRATES) {
            refuses(INDEX, "pack", 0, crate);
            refuses(INDEX, "seal", crate);
            refuses(INDEX, "open", crate, 0);
            refuses(INDEX, "carry", crate, 1);
            refuses(INDEX, "crateKeeper", crate);
            refuses(INDEX, "sealOf", crate);
        }
    }

    @Says("Terms: Disks are numbered from 0 on; at most 60 are brought.")
    void termsDisksAreNumbered0To59() {
        for (int disk = 0; disk < 60; disk++) {
            answers(disk, "bring", 0, 0, 0);
        }
        refuses(STATE, "bring", 0, 0, 0);
        answers(60, "disks");
    }

    @Says("Terms: A disk has a kind, 0 spinning, 1 flash, 2 tape, and a secrecy, 0 to 3.")
    void termsKindsAre0To2AndSecreciesAre0To3() {
        int disk = 0;
        for (int kind = 0; kind <= 2; kind++) {
            for (int secrecy = 0; secrecy <= 3; secrecy++) {
                answers(disk++, "bring", kind, secrecy, 0);
            }
        }
        for (int none : NO_KINDS) {
            refuses(ARGUMENT, "bring", none, 0, 0);
        }
        for (int none : NO_SECRECIES) {
            refuses(ARGUMENT, "bring", 0, none, 0);
        }
    }

    @Says("Terms: A disk is at any time with one keeper, and in one crate or in none.")
    void termsADiskIsWithOneKeeper() {
        bring(3, 2);
        hasIsInAll(3);
        tell("offer", 0, 5);
        hasIsInAll(3);
        tell("answer", 0, true);
        hasIsInAll(3);
        tell("carry", 8, 2);
        tell("pack", 1, 8);
        tell("lose", 1);
        tell("seal", 8);
        hasIsInAll(3);
        tell("carry", 8, 7);
        hasIsInAll(3);
        tell("open", 8, 0);
        tell("find", 1);
        tell("unpack", 1);
        hasIsInAll(3);
    }

    private void hasIsInAll(int disks) {
        int all = 0;
        for (int keeper = 0; keeper < KEEPERS; keeper++) {
            all += (Integer) run().answerOf(Call.of("has", keeper));
        }
        same("all that all keepers have", all, disks);
    }

    @Says("Terms: A disk is at any time with one keeper, and in one crate or in none.")
    void termsADiskIsInOneCrateOrInNone() {
        bring(1, 0);
        answers(NONE, "crateOf", 0);
        tell("pack", 0, 3);
        answers(3, "crateOf", 0);
        refuses(STATE, "pack", 0, 4);
        tell("unpack", 0);
        answers(NONE, "crateOf", 0);
        tell("pack", 0, 4);
        tell("seal", 3);
        answers(0, "open", 3, 0);
        tell("seal", 4);
        answers(0, "open", 4, 1);
    }

    @Says("Terms: It is raw, wiped, spoiled or broken, and raw at first.")
    void termsItIsRawAtFirst() {
        for (int kind = 0; kind <= 2; kind++) {
            for (int secrecy = 0; secrecy <= 3; secrecy++) {
                anew();
                tell("bring", kind, secrecy, 0);
                answers(RAW, "stateOf", 0);
                answers(RAW, "smash", 0, 1);
            }
        }
    }

    // ---- missing disks

    private static final String MISSING = "Terms: It may be missing; nothing can be done with a missing disk but finding it, "
            + "and counting it where it should be.";

    @Says(MISSING)
    void termsNothingCanBeDoneWithAMissingDisk() {
        bringWiped();
        tell("lose", 0);
        refuses(STATE, "offer", 0, 1);
        refuses(STATE, "answer", 0, true);
        refuses(STATE, "pack", 0, 0);
        refuses(STATE, "unpack", 0);
        refuses(STATE, "wipe", 0, 0, 1);
        refuses(STATE, "smash", 0, 1);
        refuses(STATE, "check", 0, 1, true);
        refuses(STATE, "lose", 0);
        answers(NONE, "find", 0);
    }

    @Says(MISSING)
    void termsAMissingDiskIsNotCertified() {
        bring(2, 0);
        tell("smash", 0, 1);
        tell("smash", 1, 1);
        tell("lose", 0);
        answers(1, "certify", 0);
        answers(NONE, "certificateOf", 0);
        answers(0, "certificateOf", 1);
    }

    @Says(MISSING)
    void termsAMissingDiskIsCountedWhereItShouldBe() {
        bring(2, 0);
        tell("pack", 0, 0);
        tell("lose", 0);
        answers(2, "has", 0);
        answers(2, "disks");
        answers(2, "pack", 1, 0);
        tell("seal", 0);
        answers(0, "open", 0, 2);
        answers(0, "oddCounts");
    }

    @Says(MISSING)
    void termsItMayBeMissingInEachState() {
        bring(4, 0);
        tell("wipe", 1, 0, 1);
        tell("wipe", 2, 1, 1);
        tell("smash", 3, 1);
        for (int disk = 0; disk < 4; disk++) {
            answers(0, "lose", disk);
            answers(disk, "stateOf", disk);
            answers(NONE, "find", disk);
            answers(disk, "stateOf", disk);
        }
    }

    // ---- crates

    @Says("Terms: A crate has a keeper, 0 at first for all, and is open or sealed; all are open at first.")
    void termsCratesAreWithKeeper0AndOpenAtFirst() {
        for (int crate = 0; crate <= 9; crate++) {
            answers(0, "crateKeeper", crate);
            answers(NONE, "sealOf", crate);
            refuses(STATE, "open", crate, 0);
            refuses(ARGUMENT, "carry", crate, 0);
        }
    }

    @Says("Terms: Disks in it are with its keeper.")
    void termsDisksInACrateAreWithItsKeeper() {
        bring(2, 3);
        refuses(STATE, "pack", 0, 6);
        tell("carry", 6, 3);
        tell("pack", 0, 6);
        tell("pack", 1, 6);
        tell("lose", 1);
        tell("seal", 6);
        for (int keeper = 0; keeper < KEEPERS; keeper++) {
            if (keeper != 3) {
                tell("carry", 6, keeper);
                answers(keeper, "crateKeeper", 6);
                answers(keeper, "keeperOf", 0);
                answers(keeper, "keeperOf", 1);
            }
        }
        refuses(STATE, "offer", 0, 1);
    }

    @Says("Terms: A disk that is in a sealed crate cannot be offered, taken out, wiped, broken or checked.")
    void termsADiskInASealedCrateCannotBeTouched() {
        bring(2, 0);
        tell("wipe", 1, 0, 1);
        packAll(2, 0);
        tell("seal", 0);
        for (int disk = 0; disk < 2; disk++) {
            refuses(STATE, "offer", disk, 1);
            refuses(STATE, "unpack", disk);
            refuses(STATE, "wipe", disk, 0, 1);
            refuses(STATE, "smash", disk, 1);
            refuses(STATE, "check", disk, 1, true);
        }
    }

    @Says("Terms: A disk that is in a sealed crate cannot be offered, taken out, wiped, broken or checked.")
    void termsADiskInAnOpenCrateCanBeTouched() {
        bring(2, 0);
        tell("wipe", 1, 0, 1);
        packAll(2, 0);
        tell("seal", 0);
        tell("open", 0, 2);
        wouldAnswer(0, "unpack", 0);
        wouldAnswer(WIPED, "wipe", 0, 0, 1);
        wouldAnswer(RAW, "smash", 0, 1);
        wouldAnswer(WIPED, "check", 1, 1, true);
    }

    private static final String SEALS =
            "Terms: Seals are numbered from 0 on, over all crates; a seal remembers how many disks were in the crate.";

    @Says(SEALS)
    void termsSealsAreNumberedOverAllCrates() {
        answers(0, "seal", 7);
        answers(1, "seal", 0);
        tell("open", 7, 0);
        answers(2, "seal", 9);
        answers(3, "seal", 7);
        tell("open", 0, 5);
        answers(4, "seal", 0);
        answers(3, "sealOf", 7);
    }

    @Says(SEALS)
    void termsASealRemembersHowManyDisksWereInTheCrate() {
        bring(4, 0);
        for (int disks = 0; disks < 4; disks++) {
            tell("seal", 1);
            answers(-disks, "open", 1, 0);
            tell("pack", disks, 1);
        }
        tell("seal", 1);
        tell("seal", 2);
        answers(0, "open", 2, 0);
        tell("lose", 0);
        tell("carry", 1, 5);
        answers(-4, "open", 1, 0);
        tell("unpack", 1);
        tell("seal", 1);
        answers(-3, "open", 1, 0);
    }

    @Says("Terms: A sealed crate is opened by counting: what is counted is compared with what the seal remembers.")
    void termsACrateIsOpenedWhateverWasCounted() {
        bring(1, 0);
        tell("pack", 0, 0);
        int odd = 0;
        for (int counted : new int[] {0, 1, 2, 99}) {
            tell("seal", 0);
            answers(counted - 1, "open", 0, counted);
            answers(NONE, "sealOf", 0);
            odd += counted == 1 ? 0 : 1;
            answers(odd, "oddCounts");
        }
    }

    // ---- hands

    private static final String HANDS = "Terms: The keeper of a disk that is in no crate offers it to another one, who takes "
            + "it or sends it back; until then it is still with the first one.";

    @Says(HANDS)
    void termsAnOfferedDiskIsStillWithTheFirstOne() {
        bring(1, 3);
        tell("offer", 0, 4);
        answers(3, "keeperOf", 0);
        answers(3, "keeperByLog", 0);
        answers(1, "has", 3);
        answers(0, "has", 4);
        wouldAnswer(4, "answer", 0, true);
        wouldAnswer(3, "answer", 0, false);
    }

    @Says(HANDS)
    void termsADiskInACrateIsNotOffered() {
        bring(1, 0);
        tell("pack", 0, 0);
        refuses(STATE, "offer", 0, 1);
        tell("unpack", 0);
        answers(0, "offer", 0, 1);
    }

    private static final String OFFERED =
            "Terms: A disk that is offered can be neither offered nor packed, wiped, broken or checked until that.";

    @Says(OFFERED)
    void termsAnOfferedDiskCannotBeTouched() {
        bring(2, 0);
        tell("wipe", 1, 0, 1);
        for (int disk = 0; disk < 2; disk++) {
            tell("offer", disk, 2);
            refuses(STATE, "offer", disk, 1);
            refuses(STATE, "offer", disk, 2);
            refuses(STATE, "pack", disk, 0);
            refuses(STATE, "unpack", disk);
            refuses(STATE, "wipe", disk, 0, 1);
            refuses(STATE, "smash", disk, 1);
            refuses(STATE, "check", disk, 1, true);
        }
    }

    @Says(OFFERED)
    void termsAnAnsweredDiskCanBeTouchedAgain() {
        bring(2, 0);
        tell("wipe", 1, 0, 1);
        for (int disk = 0; disk < 2; disk++) {
            tell("offer", disk, 2);
            tell("answer", disk, false);
            wouldAnswer(0, "offer", disk, 1);
            wouldAnswer(1, "pack", disk, 0);
            wouldAnswer(disk == 0 ? WIPED : (Object) STATE, "wipe", disk, 0, 1);
            wouldAnswer(disk, "smash", disk, 1);
            wouldAnswer(disk == 0 ? STATE : (Object) WIPED, "check", disk, 1, true);
        }
    }

    @Says(OFFERED)
    void termsAnOfferedDiskCanBeCertifiedAndLost() {
        bring(1, 0);
        tell("smash", 0, 1);
        tell("offer", 0, 2);
        answers(1, "certify", 0);
        answers(2, "offeredTo", 0);
        answers(0, "lose", 0);
    }

    @Says("Terms: A sealed crate is carried to another keeper with all that is in it.")
    void termsASealedCrateIsCarriedWithAllThatIsInIt() {
        bring(5, 0);
        for (int disk = 0; disk < 4; disk++) {
            tell("pack", disk, disk == 3 ? 1 : 0);
        }
        tell("lose", 1);
        tell("seal", 0);
        tell("lose", 2);
        tell("carry", 0, 6);
        for (int disk = 0; disk < 5; disk++) {
            answers(disk < 3 ? 6 : 0, "keeperOf", disk);
            answers(disk < 3 ? 6 : 0, "keeperByLog", disk);
            answers(disk < 3 ? 0 : disk == 3 ? 1 : NONE, "crateOf", disk);
        }
        answers(3, "has", 6);
        answers(2, "missing");
        answers(8, "logged");
        answers(0, "open", 0, 3);
    }

    // ---- wiping

    @Says("Terms: The ways are 0 to overwrite, 1 to erase by command, 2 to heat.")
    void termsWaysAre0To2() {
        bring(1, 0);
        for (int way = 0; way <= 2; way++) {
            wouldAnswer(way == 0 ? WIPED : SPOILED, "wipe", 0, way, 1);
        }
        for (int way : NO_WAYS) {
            refuses(ARGUMENT, "wipe", 0, way, 1);
        }
    }

    @Says("Terms: A way suits a kind of the same number.")
    void termsAWaySuitsAKindOfTheSameNumber() {
        for (int kind = 0; kind <= 2; kind++) {
            anew();
            tell("bring", kind, 0, 0);
            for (int way = 0; way <= 2; way++) {
                wouldAnswer(way == kind ? WIPED : SPOILED, "wipe", 0, way, 1);
            }
        }
    }

    @Says("Terms: The doer is the keeper of the disk, the witness somebody else.")
    void termsTheDoerIsTheKeeperAndTheWitnessSomebodyElse() {
        for (int keeper = 0; keeper < KEEPERS; keeper++) {
            anew();
            bring(1, keeper);
            refuses(ARGUMENT, "wipe", 0, 0, keeper);
            refuses(ARGUMENT, "smash", 0, keeper);
            tell("wipe", 0, 0, (keeper + 1) % KEEPERS);
            refuses(ARGUMENT, "check", 0, keeper, true);
        }
    }

    @Says("Terms: The doer is the keeper of the disk, the witness somebody else.")
    void termsTheDoerOfACarriedDiskIsItsNewKeeper() {
        bring(1, 0);
        tell("pack", 0, 0);
        tell("seal", 0);
        tell("carry", 0, 3);
        tell("open", 0, 1);
        refuses(ARGUMENT, "wipe", 0, 0, 3);
        refuses(ARGUMENT, "smash", 0, 3);
        answers(WIPED, "wipe", 0, 0, 0);
        refuses(ARGUMENT, "check", 0, 3, true);
        answers(WIPED, "check", 0, 0, true);
    }

    private static final String WIPED_OR_SPOILED = "Terms: A raw or spoiled disk is wiped by a way that suits, if its secrecy "
            + "is below 3; by any other way, or with the secrecy 3, it is spoiled.";

    @Says(WIPED_OR_SPOILED)
    void termsARawDiskIsWipedOrSpoiled() {
        for (int kind = 0; kind <= 2; kind++) {
            for (int secrecy = 0; secrecy <= 3; secrecy++) {
                anew();
                tell("bring", kind, secrecy, 0);
                wipesOrSpoils(kind, secrecy);
            }
        }
    }

    @Says(WIPED_OR_SPOILED)
    void termsASpoiledDiskIsWipedOrSpoiled() {
        for (int kind = 0; kind <= 2; kind++) {
            for (int secrecy = 0; secrecy <= 3; secrecy++) {
                anew();
                tell("bring", kind, secrecy, 0);
                answers(SPOILED, "wipe", 0, (kind + 1) % WAYS, 1);
                wipesOrSpoils(kind, secrecy);
            }
        }
    }

    @Says(WIPED_OR_SPOILED)
    void termsADiskSpoiledByACheckIsWipedOrSpoiled() {
        for (int kind = 0; kind <= 2; kind++) {
            anew();
            tell("bring", kind, 2, 0);
            tell("wipe", 0, kind, 1);
            tell("check", 0, 1, false);
            wipesOrSpoils(kind, 2);
        }
    }

    private void wipesOrSpoils(int kind, int secrecy) {
        for (int way = 0; way < WAYS; way++) {
            wouldAnswer(way == kind && secrecy < 3 ? WIPED : SPOILED, "wipe", 0, way, 1);
        }
    }

    @Says("Terms: Breaking makes any disk broken that is not.")
    void termsBreakingMakesAnyDiskBrokenThatIsNot() {
        for (int kind = 0; kind <= 2; kind++) {
            for (int secrecy = 0; secrecy <= 3; secrecy++) {
                anew();
                tell("bring", kind, secrecy, 0);
                answers(RAW, "smash", 0, 1);
                answers(BROKEN, "stateOf", 0);
                refuses(STATE, "smash", 0, 1);
            }
        }
        anew();
        bring(3, 0);
        tell("wipe", 0, 0, 1);
        tell("wipe", 1, 1, 1);
        tell("wipe", 2, 0, 1);
        tell("check", 2, 1, true);
        for (int disk = 0; disk < 3; disk++) {
            tell("smash", disk, 1);
            answers(BROKEN, "stateOf", disk);
        }
    }

    private static final String CHECKED = "Terms: A wiped disk can be checked by a witness of its wiping or anybody else but "
            + "its doer; if the check is bad, it is spoiled.";

    @Says(CHECKED)
    void termsAnybodyButItsDoerCanCheck() {
        bring(1, 2);
        tell("wipe", 0, 0, 6);
        tell("offer", 0, 4);
        tell("answer", 0, true);
        for (int witness = 0; witness < KEEPERS; witness++) {
            wouldAnswer(witness == 2 ? ARGUMENT : (Object) WIPED, "check", 0, witness, true);
        }
    }

    @Says(CHECKED)
    void termsItIsSpoiledIfTheCheckIsBad() {
        bringWiped();
        tell("check", 0, 1, true);
        answers(SPOILED, "check", 0, 1, false);
        answers(SPOILED, "stateOf", 0);
        refuses(STATE, "check", 0, 1, true);
    }

    private static final String DONE =
            "Terms: A broken disk, or a wiped one that was checked since it was wiped and found good, is done.";

    @Says(DONE)
    void termsABrokenDiskIsDone() {
        bring(2, 0);
        tell("smash", 0, 1);
        answers(true, "isDone", 0);
        tell("wipe", 1, 0, 1);
        tell("check", 1, 1, false);
        tell("smash", 1, 1);
        answers(true, "isDone", 1);
    }

    @Says(DONE)
    void termsAWipedDiskIsDoneWhenItWasFoundGood() {
        bring(1, 0);
        answers(false, "isDone", 0);
        tell("wipe", 0, 0, 1);
        answers(false, "isDone", 0);
        tell("check", 0, 1, true);
        answers(true, "isDone", 0);
        tell("check", 0, 1, false);
        answers(false, "isDone", 0);
    }

    @Says(DONE)
    void termsACheckBeforeTheLastWipingCountsNoMore() {
        bringWiped();
        tell("check", 0, 1, true);
        tell("check", 0, 1, false);
        tell("wipe", 0, 0, 1);
        answers(WIPED, "stateOf", 0);
        answers(false, "isDone", 0);
        refuses(NO_ELEMENT, "certify", 0);
        tell("check", 0, 1, true);
        answers(true, "isDone", 0);
    }

    // ---- certificates

    @Says("Terms: Certificates are numbered from 0 on.")
    void termsCertificatesAreNumbered0To59() {
        for (int disk = 0; disk < MOST_DISKS; disk++) {
            tell("bring", 0, 0, disk % KEEPERS);
            tell("smash", disk, (disk + 1) % KEEPERS);
            tell("certify", disk % KEEPERS);
            answers(disk, "certificateOf", disk);
        }
        answers(0, "certificateOf", 0);
    }

    private static final String ON_IT = "Terms: One is made for a keeper: it has all disks of that keeper that are done, not "
            + "missing and on no certificate yet, if there are any.";

    @Says(ON_IT)
    void termsACertificateHasAllDisksOfTheKeeperThatAreDone() {
        bring(6, 7);
        bring(1, 6);
        tell("smash", 0, 0);
        tell("wipe", 1, 0, 0);
        tell("check", 1, 0, true);
        tell("wipe", 2, 0, 0);
        tell("wipe", 3, 1, 0);
        tell("smash", 5, 0);
        tell("lose", 5);
        tell("smash", 6, 0);
        answers(2, "certify", 7);
        int[] due = {0, 0, NONE, NONE, NONE, NONE, NONE};
        for (int disk = 0; disk < due.length; disk++) {
            answers(due[disk], "certificateOf", disk);
        }
    }

    @Says(ON_IT)
    void termsACertificateHasDisksWhereverTheyAre() {
        bring(4, 0);
        for (int disk = 0; disk < 4; disk++) {
            tell("smash", disk, 1);
        }
        tell("pack", 0, 0);
        tell("pack", 1, 1);
        tell("seal", 1);
        tell("offer", 2, 1);
        answers(4, "certify", 0);
    }

    @Says(ON_IT)
    void termsACertificateHasDisksThatCameFromAnother() {
        bring(2, 0);
        tell("smash", 0, 1);
        tell("smash", 1, 1);
        tell("offer", 0, 3);
        tell("answer", 0, true);
        tell("pack", 1, 0);
        tell("seal", 0);
        tell("carry", 0, 3);
        refuses(NO_ELEMENT, "certify", 0);
        answers(2, "certify", 3);
    }

    @Says(ON_IT)
    void termsACertificateHasNoDiskOfAnotherCertificate() {
        bring(3, 0);
        tell("smash", 0, 1);
        tell("certify", 0);
        tell("smash", 1, 1);
        tell("certify", 0);
        tell("smash", 2, 1);
        answers(1, "certify", 0);
        for (int disk = 0; disk < 3; disk++) {
            answers(disk, "certificateOf", disk);
        }
    }

    @Says("Terms: A disk stays on its certificate for good.")
    void termsADiskStaysOnItsCertificateWhenAnotherKeeperHasIt() {
        bring(1, 0);
        tell("smash", 0, 1);
        tell("certify", 0);
        tell("offer", 0, 1);
        tell("answer", 0, true);
        answers(0, "certificateOf", 0);
        refuses(NO_ELEMENT, "certify", 1);
    }

    @Says("Terms: A disk stays on its certificate for good.")
    void termsADiskStaysOnItsCertificateWhenItIsDoneNoMore() {
        bringWiped();
        tell("check", 0, 1, true);
        tell("certify", 0);
        tell("check", 0, 1, false);
        answers(0, "certificateOf", 0);
        tell("wipe", 0, 0, 1);
        answers(0, "certificateOf", 0);
        tell("check", 0, 1, true);
        refuses(NO_ELEMENT, "certify", 0);
        tell("smash", 0, 1);
        refuses(NO_ELEMENT, "certify", 0);
        answers(0, "certificateOf", 0);
    }

    @Says("Terms: A disk stays on its certificate for good.")
    void termsADiskStaysOnItsCertificateWhenItIsMissing() {
        bring(2, 0);
        tell("smash", 0, 1);
        tell("certify", 0);
        tell("smash", 1, 1);
        tell("lose", 0);
        answers(0, "certificateOf", 0);
        answers(1, "certify", 0);
        tell("find", 0);
        answers(0, "certificateOf", 0);
        refuses(NO_ELEMENT, "certify", 0);
    }

    // ---- the log

    private static final String LOG = "Terms: The log has an entry for each change of a disk's keeper: bringing it, taking it "
            + "when it was offered, and carrying its crate.";

    @Says(LOG)
    void termsTheLogHasAnEntryForBringing() {
        for (int disk = 0; disk < MOST_DISKS; disk++) {
            answers(disk, "logged");
            tell("bring", 0, 0, disk % KEEPERS);
            answers(disk % KEEPERS, "keeperByLog", disk);
        }
        answers(60, "logged");
    }

    @Says(LOG)
    void termsTheLogHasAnEntryForTakingNotForOfferingOrSendingBack() {
        bring(1, 0);
        tell("offer", 0, 1);
        answers(1, "logged");
        tell("answer", 0, false);
        answers(1, "logged");
        tell("offer", 0, 1);
        tell("answer", 0, true);
        answers(2, "logged");
        answers(1, "keeperByLog", 0);
    }

    @Says(LOG)
    void termsTheLogHasAnEntryForEachDiskInACarriedCrate() {
        for (int disks : new int[] {0, 1, 2, MOST_DISKS}) {
            anew();
            bring(disks, 0);
            packAll(disks, 0);
            tell("seal", 0);
            tell("carry", 0, 1);
            answers(disks * 2, "logged");
            tell("carry", 0, 0);
            answers(disks * 3, "logged");
        }
    }

    // ---- exceptions

    @Says("Terms: A call that throws an exception changes nothing.")
    void termsARefusedCallChangesNothing() {
        makeBusy();
        int refused = 0;
        for (Call call : callsOfAllArguments()) {
            if (run().answerOfAnother(call) instanceof Class) {
                same(call + ": what it changed", run().changeBy(call), "");
                refused++;
            }
        }
        same("most of these calls were refused", refused > 500, true);
    }

    /** Each telling call with the values that are there, and those right beside them. */
    private static List<Call> callsOfAllArguments() {
        List<Call> calls = new ArrayList<>();
        for (int keeper = -1; keeper <= 8; keeper++) {
            calls.add(Call.of("certify", keeper));
            for (int crate = -1; crate <= 10; crate++) {
                calls.add(Call.of("carry", crate, keeper));
            }
            for (int disk = -1; disk <= 8; disk++) {
                calls.add(Call.of("offer", disk, keeper));
                calls.add(Call.of("smash", disk, keeper));
                calls.add(Call.of("check", disk, keeper, true));
                calls.add(Call.of("check", disk, keeper, false));
            }
        }
        for (int disk = -1; disk <= 8; disk++) {
            for (String name : List.of("unpack", "lose", "find")) {
                calls.add(Call.of(name, disk));
            }
            calls.add(Call.of("answer", disk, true));
            calls.add(Call.of("answer", disk, false));
            for (int crate = -1; crate <= 10; crate++) {
                calls.add(Call.of("pack", disk, crate));
            }
            for (int way = -1; way <= 3; way++) {
                for (int witness : new int[] {-1, 0, 1, 3, 5, 7, 8}) {
                    calls.add(Call.of("wipe", disk, way, witness));
                }
            }
        }
        for (int crate = -1; crate <= 10; crate++) {
            calls.add(Call.of("seal", crate));
            for (int counted : new int[] {-1, 0, 1, 2, 99, 100}) {
                calls.add(Call.of("open", crate, counted));
            }
        }
        for (int keeper : new int[] {-1, 0, 7, 8}) {
            for (int secrecy : new int[] {-1, 0, 3, 4}) {
                for (int kind : new int[] {-1, 0, 2, 3}) {
                    calls.add(Call.of("bring", kind, secrecy, keeper));
                }
            }
        }
        return calls;
    }

    private static final String FIRST = "Terms: If several apply, the one that the throws clause names first is thrown.";

    @Says(FIRST)
    void termsFirstNamedOfBring() {
        for (int keeper : NO_KEEPERS) {
            refuses(INDEX, "bring", 3, 0, keeper);
            refuses(INDEX, "bring", 0, 4, keeper);
            refuses(INDEX, "bring", -1, -1, keeper);
        }
        bring(MOST_DISKS, 0);
        refuses(INDEX, "bring", 0, 0, 8);
        refuses(INDEX, "bring", 3, 4, -1);
        refuses(ARGUMENT, "bring", 3, 0, 0);
        refuses(ARGUMENT, "bring", 0, 4, 0);
        refuses(ARGUMENT, "bring", -1, -1, 0);
    }

    @Says(FIRST)
    void termsFirstNamedOfOffer() {
        for (String trouble : List.of("missing", "offered", "packed", "sealed")) {
            makeTrouble(trouble);
            refuses(INDEX, "offer", 0, -1);
            refuses(INDEX, "offer", 0, 8);
            refuses(ARGUMENT, "offer", 0, 0);
        }
        refuses(INDEX, "offer", 1, 8);
    }

    @Says(FIRST)
    void termsFirstNamedOfPack() {
        for (String trouble : List.of("missing", "offered", "packed", "sealed")) {
            makeTrouble(trouble);
            refuses(INDEX, "pack", 0, -1);
            refuses(INDEX, "pack", 0, 10);
        }
        refuses(INDEX, "pack", 1, 0);
        refuses(INDEX, "pack", 1, 10);
    }

    @Says(FIRST)
    void termsFirstNamedOfSeal() {
        for (int seal = 0; seal < MOST_SEALS; seal++) {
            tell("seal", 0);
            tell("open", 0, 0);
        }
        refuses(INDEX, "seal", -1);
        refuses(INDEX, "seal", 10);
    }

    @Says(FIRST)
    void termsFirstNamedOfOpen() {
        for (int counted : NO_COUNTS) {
            refuses(INDEX, "open", -1, counted);
            refuses(INDEX, "open", 10, counted);
            refuses(ARGUMENT, "open", 0, counted);
        }
    }

    @Says(FIRST)
    void termsFirstNamedOfCarry() {
        bring(1, 0);
        tell("pack", 0, 0);
        refuses(INDEX, "carry", 0, -1);
        refuses(INDEX, "carry", 0, 8);
        refuses(ARGUMENT, "carry", 0, 0);
        refuses(INDEX, "carry", 10, 8);
    }

    @Says(FIRST)
    void termsFirstNamedOfWipe() {
        for (String trouble : List.of("none", "missing", "offered", "sealed", "wiped", "broken")) {
            makeTrouble(trouble);
            refuses(INDEX, "wipe", 0, 0, -1);
            refuses(INDEX, "wipe", 0, 0, 8);
            refuses(INDEX, "wipe", 0, 3, 8);
            refuses(INDEX, "wipe", 1, 3, 0);
            refuses(ARGUMENT, "wipe", 0, -1, 1);
            refuses(ARGUMENT, "wipe", 0, 3, 1);
            refuses(ARGUMENT, "wipe", 0, 0, 0);
            refuses(ARGUMENT, "wipe", 0, 3, 0);
        }
    }

    @Says(FIRST)
    void termsFirstNamedOfSmash() {
        for (String trouble : List.of("missing", "offered", "sealed", "broken")) {
            makeTrouble(trouble);
            refuses(INDEX, "smash", 0, -1);
            refuses(INDEX, "smash", 0, 8);
            refuses(ARGUMENT, "smash", 0, 0);
        }
    }

    @Says(FIRST)
    void termsFirstNamedOfCheckOfAWipedDisk() {
        for (String trouble : List.of("wiped", "wiped and missing", "wiped and offered", "wiped and sealed")) {
            makeTrouble(trouble);
            refuses(INDEX, "check", 0, -1, true);
            refuses(INDEX, "check", 0, 8, false);
            refuses(ARGUMENT, "check", 0, 0, true);
            refuses(ARGUMENT, "check", 0, 0, false);
        }
    }

    @Says(FIRST)
    void termsFirstNamedOfCheckOfAnotherDisk() {
        for (String trouble : List.of("none", "missing", "offered", "sealed", "broken", "wiped and broken")) {
            makeTrouble(trouble);
            refuses(INDEX, "check", 0, -1, true);
            refuses(INDEX, "check", 0, 8, false);
            refuses(STATE, "check", 0, 0, true);
            refuses(STATE, "check", 0, 0, false);
        }
    }

    @Says(FIRST)
    void termsFirstNamedOfCertify() {
        refuses(INDEX, "certify", -1);
        refuses(INDEX, "certify", 8);
        refuses(NO_ELEMENT, "certify", 0);
    }

    /** A new object's disk 0, with keeper 0, of which that can be said. */
    private void makeTrouble(String trouble) {
        anew();
        bring(1, 0);
        for (String what : trouble.split(" and ")) {
            switch (what) {
                case "missing" -> tell("lose", 0);
                case "offered" -> tell("offer", 0, 1);
                case "packed" -> tell("pack", 0, 0);
                case "sealed" -> {
                    tell("pack", 0, 0);
                    tell("seal", 0);
                }
                case "wiped" -> tell("wipe", 0, 0, 1);
                case "broken" -> tell("smash", 0, 1);
                default -> { }
            }
        }
    }

    // ---- the constants

    @Says("Terms: The constants: `NONE = -1`: There is none.")
    void termsNoneIsMinus1() {
        same("NONE", Shredroll.NONE, -1);
        bring(1, 0);
        answers(-1, "crateOf", 0);
        answers(-1, "offeredTo", 0);
        answers(-1, "certificateOf", 0);
        answers(-1, "sealOf", 0);
        tell("lose", 0);
        answers(-1, "find", 0);
    }

    @Says("Terms: `RAW = 0, WIPED = 1, SPOILED = 2, BROKEN = 3`: What a disk is.")
    void termsWhatADiskIsIs0To3() {
        same("RAW", Shredroll.RAW, 0);
        same("WIPED", Shredroll.WIPED, 1);
        same("SPOILED", Shredroll.SPOILED, 2);
        same("BROKEN", Shredroll.BROKEN, 3);
        bring(4, 0);
        answers(1, "wipe", 1, 0, 1);
        answers(2, "wipe", 2, 1, 1);
        tell("smash", 3, 1);
        for (int disk = 0; disk < 4; disk++) {
            answers(disk, "stateOf", disk);
        }
    }
}
