/** "Terms": wiping and certificates. */
final class TermsOfWipingSentences extends Sentences {

    // ---- wiping

    @Says("Terms: The ways are 0 to overwrite, 1 to erase by command, 2 to heat.")
    void termsWaysAre0To2() {
        bring(1, 0);
        for (int way = 0; way <= 2; way++) {
            wouldAnswer(way == 0 ? WIPED : SPOILED, "wipe", 0, way, 1);
        }
        for (int way : NO_WAYS) {
            refuses(ARGUMENT, "wipe", 0, way, 1);
        }
    }

    @Says("Terms: A way suits a kind of the same number.")
    void termsAWaySuitsAKindOfTheSameNumber() {
        for (int kind = 0; kind <= 2; kind++) {
            anew();
            tell("bring", kind, 0, 0);
            for (int way = 0; way <= 2; way++) {
                wouldAnswer(way == kind ? WIPED : SPOILED, "wipe", 0, way, 1);
            }
        }
    }

    @Says("Terms: The doer is the keeper of the disk, the witness somebody else.")
    void termsTheDoerIsTheKeeperAndTheWitnessSomebodyElse() {
        for (int keeper = 0; keeper < KEEPERS; keeper++) {
            anew();
            bring(1, keeper);
            refuses(ARGUMENT, "wipe", 0, 0, keeper);
            refuses(ARGUMENT, "smash", 0, keeper);
            tell("wipe", 0, 0, (keeper + 1) % KEEPERS);
            refuses(ARGUMENT, "check", 0, keeper, true);
        }
    }

    @Says("Terms: The doer is the keeper of the disk, the witness somebody else.")
    void termsTheDoerOfACarriedDiskIsItsNewKeeper() {
        bring(1, 0);
        tell("pack", 0, 0);
        tell("seal", 0);
        tell("carry", 0, 3);
        tell("open", 0, 1);
        refuses(ARGUMENT, "wipe", 0, 0, 3);
        refuses(ARGUMENT, "smash", 0, 3);
        answers(WIPED, "wipe", 0, 0, 0);
        refuses(ARGUMENT, "check", 0, 3, true);
        answers(WIPED, "check", 0, 0, true);
    }

    private static final String WIPED_OR_SPOILED = "Terms: A raw or spoiled disk is wiped by a way that suits, if its secrecy "
            + "is below 3; by any other way, or with the secrecy 3, it is spoiled.";

    @Says(WIPED_OR_SPOILED)
    void termsARawDiskIsWipedOrSpoiled() {
        for (int kind = 0; kind <= 2; kind++) {
            for (int secrecy = 0; secrecy <= 3; secrecy++) {
                anew();
                tell("bring", kind, secrecy, 0);
                wipesOrSpoils(kind, secrecy);
            }
        }
    }

    @Says(WIPED_OR_SPOILED)
    void termsASpoiledDiskIsWipedOrSpoiled() {
        for (int kind = 0; kind <= 2; kind++) {
            for (int secrecy = 0; secrecy <= 3; secrecy++) {
                anew();
                tell("bring", kind, secrecy, 0);
                answers(SPOILED, "wipe", 0, (kind + 1) % WAYS, 1);
                wipesOrSpoils(kind, secrecy);
            }
        }
    }

    @Says(WIPED_OR_SPOILED)
    void termsADiskSpoiledByACheckIsWipedOrSpoiled() {
        for (int kind = 0; kind <= 2; kind++) {
            anew();
            tell("bring", kind, 2, 0);
            tell("wipe", 0, kind, 1);
            tell("check", 0, 1, false);
            wipesOrSpoils(kind, 2);
        }
    }

    private void wipesOrSpoils(int kind, int secrecy) {
        for (int way = 0; way < WAYS; way++) {
            wouldAnswer(way == kind && secrecy < 3 ? WIPED : SPOILED, "wipe", 0, way, 1);
        }
    }

    @Says("Terms: Breaking makes any disk broken that is not.")
    void termsBreakingMakesAnyDiskBrokenThatIsNot() {
        for (int kind = 0; kind <= 2; kind++) {
            for (int secrecy = 0; secrecy <= 3; secrecy++) {
                anew();
                tell("bring", kind, secrecy, 0);
                answers(RAW, "smash", 0, 1);
                answers(BROKEN, "stateOf", 0);
                refuses(STATE, "smash", 0, 1);
            }
        }
        anew();
        bring(3, 0);
        tell("wipe", 0, 0, 1);
        tell("wipe", 1, 1, 1);
        tell("wipe", 2, 0, 1);
        tell("check", 2, 1, true);
        for (int disk = 0; disk < 3; disk++) {
            tell("smash", disk, 1);
            answers(BROKEN, "stateOf", disk);
        }
    }

    private static final String CHECKED = "Terms: A wiped disk can be checked by a witness of its wiping or anybody else but "
            + "its doer; if the check is bad, it is spoiled.";

    @Says(CHECKED)
    void termsAnybodyButItsDoerCanCheck() {
        bring(1, 2);
        tell("wipe", 0, 0, 6);
        tell("offer", 0, 4);
        tell("answer", 0, true);
        for (int witness = 0; witness < KEEPERS; witness++) {
            wouldAnswer(witness == 2 ? ARGUMENT : (Object) WIPED, "check", 0, witness, true);
        }
    }

    @Says(CHECKED)
    void termsItIsSpoiledIfTheCheckIsBad() {
        bringWiped();
        tell("check", 0, 1, true);
        answers(SPOILED, "check", 0, 1, false);
        answers(SPOILED, "stateOf", 0);
        refuses(STATE, "check", 0, 1, true);
    }

    private static final String DONE =
            "Terms: A broken disk, or a wiped one that was checked since it was wiped and found good, is done.";

    @Says(DONE)
    void termsABrokenDiskIsDone() {
        bring(2, 0);
        tell("smash", 0, 1);
        answers(true, "isDone", 0);
        tell("wipe", 1, 0, 1);
        tell("check", 1, 1, false);
        tell("smash", 1, 1);
        answers(true, "isDone", 1);
    }

    @Says(DONE)
    void termsAWipedDiskIsDoneWhenItWasFoundGood() {
        bring(1, 0);
        answers(false, "isDone", 0);
        tell("wipe", 0, 0, 1);
        answers(false, "isDone", 0);
        tell("check", 0, 1, true);
        answers(true, "isDone", 0);
        tell("check", 0, 1, false);
        answers(false, "isDone", 0);
    }

    @Says(DONE)
    void termsACheckBeforeTheLastWipingCountsNoMore() {
        bringWiped();
        tell("check", 0, 1, true);
        tell("check", 0, 1, false);
        tell("wipe", 0, 0, 1);
        answers(WIPED, "stateOf", 0);
        answers(false, "isDone", 0);
        refuses(NO_ELEMENT, "certify", 0);
        tell("check", 0, 1, true);
        answers(true, "isDone", 0);
    }

    // ---- certificates

    @Says("Terms: Certificates are numbered from 0 on.")
    void termsCertificatesAreNumbered0To59() {
        for (int disk = 0; disk < MOST_DISKS; disk++) {
            tell("bring", 0, 0, disk % KEEPERS);
            tell("smash", disk, (disk + 1) % KEEPERS);
            tell("certify", disk % KEEPERS);
            answers(disk, "certificateOf", disk);
        }
        answers(0, "certificateOf", 0);
    }

    private static final String ON_IT = "Terms: One is made for a keeper: it has all disks of that keeper that are done, not "
            + "missing and on no certificate yet, if there are any.";

    @Says(ON_IT)
    void termsACertificateHasAllDisksOfTheKeeperThatAreDone() {
        bring(6, 7);
        bring(1, 6);
        tell("smash", 0, 0);
        tell("wipe", 1, 0, 0);
        tell("check", 1, 0, true);
        tell("wipe", 2, 0, 0);
        tell("wipe", 3, 1, 0);
        tell("smash", 5, 0);
        tell("lose", 5);
        tell("smash", 6, 0);
        answers(2, "certify", 7);
        int[] due = {0, 0, NONE, NONE, NONE, NONE, NONE};
        for (int disk = 0; disk < due.length; disk++) {
            answers(due[disk], "certificateOf", disk);
        }
    }

    @Says(ON_IT)
    void termsACertificateHasDisksWhereverTheyAre() {
        bring(4, 0);
        for (int disk = 0; disk < 4; disk++) {
            tell("smash", disk, 1);
        }
        tell("pack", 0, 0);
        tell("pack", 1, 1);
        tell("seal", 1);
        tell("offer", 2, 1);
        answers(4, "certify", 0);
    }

    @Says(ON_IT)
    void termsACertificateHasDisksThatCameFromAnother() {
        bring(2, 0);
        tell("smash", 0, 1);
        tell("smash", 1, 1);
        tell("offer", 0, 3);
        tell("answer", 0, true);
        tell("pack", 1, 0);
        tell("seal", 0);
        tell("carry", 0, 3);
        refuses(NO_ELEMENT, "certify", 0);
        answers(2, "certify", 3);
    }

    @Says(ON_IT)
    void termsACertificateHasNoDiskOfAnotherCertificate() {
        bring(3, 0);
        tell("smash", 0, 1);
        tell("certify", 0);
        tell("smash", 1, 1);
        tell("certify", 0);
        tell("smash", 2, 1);
        answers(1, "certify", 0);
        for (int disk = 0; disk < 3; disk++) {
            answers(disk, "certificateOf", disk);
        }
    }

    @Says("Terms: A disk stays on its certificate for good.")
    void termsADiskStaysOnItsCertificateWhenAnotherKeeperHasIt() {
        bring(1, 0);
        tell("smash", 0, 1);
        tell("certify", 0);
        tell("offer", 0, 1);
        tell("answer", 0, true);
        answers(0, "certificateOf", 0);
        refuses(NO_ELEMENT, "certify", 1);
    }

    @Says("Terms: A disk stays on its certificate for good.")
    void termsADiskStaysOnItsCertificateWhenItIsDoneNoMore() {
        bringWiped();
        tell("check", 0, 1, true);
        tell("certify", 0);
        tell("check", 0, 1, false);
        answers(false, "isDone", 0);
        answers(0, "certificateOf", 0);
        tell("wipe", 0, 0, 1);
        answers(0, "certificateOf", 0);
        tell("check", 0, 1, true);
        refuses(NO_ELEMENT, "certify", 0);
        tell("smash", 0, 1);
        refuses(NO_ELEMENT, "certify", 0);
        answers(0, "certificateOf", 0);
    }

    @Says("Terms: A disk stays on its certificate for good.")
    void termsADiskStaysOnItsCertificateWhenItIsMissing() {
        bring(2, 0);
        tell("smash", 0, 1);
        tell("certify", 0);
        tell("smash", 1, 1);
        tell("lose", 0);
        answers(0, "certificateOf", 0);
        answers(1, "certify", 0);
        tell("find", 0);
        answers(0, "certificateOf", 0);
        refuses(NO_ELEMENT, "certify", 0);
    }
}
