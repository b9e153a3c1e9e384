/** Each promise of the document by hand: ordinary inputs, edges, wrong inputs, and which exception comes first. */
public final class PromiseTest {
    private static final int NONE = Shredroll.NONE;
    private static final int RAW = Shredroll.RAW;
    private static final int WIPED = Shredroll.WIPED;
    private static final int SPOILED = Shredroll.SPOILED;
    private static final int BROKEN = Shredroll.BROKEN;

    private final Tester t = new Tester();

    public static void main(String[] args) {
        PromiseTest test = new PromiseTest();
        test.promise1NewObject();
        test.promise2Bring();
        test.promise2BringOrder();
        test.promise3Offer();
        test.promise3OfferOrder();
        test.promise4Answer();
        test.promise5Pack();
        test.promise5PackRefusals();
        test.promise6Unpack();
        test.promise7Seal();
        test.promise7SealLimit();
        test.promise8Open();
        test.promise8OpenRefusals();
        test.promise9Carry();
        test.promise9CarryRefusals();
        test.promise10WipeWays();
        test.promise10WipeAgain();
        test.promise10WipeRefusals();
        test.promise11Smash();
        test.promise11SmashRefusals();
        test.promise12Check();
        test.promise12CheckDoer();
        test.promise12CheckRefusals();
        test.promise13Lose();
        test.promise13LoseInCrate();
        test.promise14Find();
        test.promise15Certify();
        test.promise15CertifyAnywhere();
        test.promise15CertifyRefusals();
        test.promises16To30OutOfRange();
        test.promises17And18Keepers();
        test.promise21IsDone();
        test.promises24And25Crates();
        test.promise26Has();
        test.promise28OddCounts();
        test.promise29Logged();
        test.objectsAreApart();
        test.t.end();
    }

    // ---- disks and hands

    private void promise1NewObject() {
        Shredroll roll = new Shredroll();
        t.due("disks() at first", roll.disks(), 0);
        t.due("missing() at first", roll.missing(), 0);
        t.due("oddCounts() at first", roll.oddCounts(), 0);
        t.due("logged() at first", roll.logged(), 0);
        t.due("certificates() at first", roll.certificates(), 0);
        for (int keeper = 0; keeper < 8; keeper++) {
            t.due("has() at first", roll.has(keeper), 0);
        }
        for (int crate = 0; crate < 10; crate++) {
            t.due("crateKeeper() at first", roll.crateKeeper(crate), 0);
            t.due("sealOf() at first", roll.sealOf(crate), NONE);
        }
        t.dueThrow("keeperOf(0) at first", roll, Tester.INDEX, () -> roll.keeperOf(0));
    }

    private void promise2Bring() {
        Shredroll roll = new Shredroll();
        for (int disk = 0; disk < 60; disk++) {
            t.due("bring", roll.bring(disk % 3, disk % 4, disk % 8), disk);
            t.due("disks() after bring", roll.disks(), disk + 1);
            t.due("logged() after bring", roll.logged(), disk + 1);
        }
        for (int disk = 0; disk < 60; disk++) {
            t.due("keeper of a brought disk", roll.keeperOf(disk), disk % 8);
            t.due("logged keeper of a brought disk", roll.keeperByLog(disk), disk % 8);
            t.due("crate of a brought disk", roll.crateOf(disk), NONE);
            t.due("state of a brought disk", roll.stateOf(disk), RAW);
            t.due("a brought disk is done", roll.isDone(disk), false);
            t.due("offer of a brought disk", roll.offeredTo(disk), NONE);
            t.due("certificate of a brought disk", roll.certificateOf(disk), NONE);
        }
        t.due("missing() after bring", roll.missing(), 0);
        t.dueThrow("bring a 61st", roll, Tester.STATE, () -> roll.bring(0, 0, 0));
        t.dueThrow("bring a 61st again", roll, Tester.STATE, () -> roll.bring(2, 3, 7));
        t.dueThrow("bring a 61st of no kind", roll, Tester.ARGUMENT, () -> roll.bring(3, 0, 0));
        t.dueThrow("bring a 61st to nobody", roll, Tester.INDEX, () -> roll.bring(0, 0, 8));
    }

    private void promise2BringOrder() {
        Shredroll roll = new Shredroll();
        for (int keeper : Tester.OUTSIDE_KEEPERS) {
            t.dueThrow("bring to nobody", roll, Tester.INDEX, () -> roll.bring(0, 0, keeper));
            t.dueThrow("bring nothing to nobody", roll, Tester.INDEX, () -> roll.bring(3, 4, keeper));
        }
        for (int kind : new int[] {-1, 3, Integer.MIN_VALUE, Integer.MAX_VALUE}) {
            t.dueThrow("bring of no kind", roll, Tester.ARGUMENT, () -> roll.bring(kind, 0, 0));
        }
        for (int secrecy : new int[] {-1, 4, Integer.MIN_VALUE, Integer.MAX_VALUE}) {
            t.dueThrow("bring of no secrecy", roll, Tester.ARGUMENT, () -> roll.bring(0, secrecy, 0));
        }
        t.due("bring after the refused ones", roll.bring(2, 3, 7), 0);
    }

    private void promise3Offer() {
        Shredroll roll = new Shredroll();
        roll.bring(0, 0, 3);
        roll.bring(0, 0, 0);
        t.due("offer", roll.offer(0, 7), 3);
        t.due("offeredTo after offer", roll.offeredTo(0), 7);
        t.due("keeper after offer", roll.keeperOf(0), 3);
        t.due("logged() after offer", roll.logged(), 2);
        t.due("the other disk's offer", roll.offeredTo(1), NONE);
        t.due("offer to keeper 1", roll.offer(1, 1), 0);
        t.due("has(3) after offer", roll.has(3), 1);
        t.due("has(7) after offer", roll.has(7), 0);
    }

    private void promise3OfferOrder() {
        Shredroll roll = new Shredroll();
        roll.bring(0, 0, 3);
        roll.bring(0, 0, 0);
        for (int disk : Tester.outsideDisks(2)) {
            t.dueThrow("offer no disk", roll, Tester.INDEX, () -> roll.offer(disk, 1));
        }
        for (int keeper : Tester.OUTSIDE_KEEPERS) {
            t.dueThrow("offer to nobody", roll, Tester.INDEX, () -> roll.offer(0, keeper));
        }
        t.dueThrow("offer to its keeper", roll, Tester.ARGUMENT, () -> roll.offer(0, 3));
        roll.offer(0, 4);
        t.dueThrow("offer an offered disk", roll, Tester.STATE, () -> roll.offer(0, 5));
        t.dueThrow("offer an offered disk to the same", roll, Tester.STATE, () -> roll.offer(0, 4));
        t.dueThrow("offer an offered disk to its keeper", roll, Tester.ARGUMENT, () -> roll.offer(0, 3));
        t.dueThrow("offer an offered disk to nobody", roll, Tester.INDEX, () -> roll.offer(0, 8));
        roll.pack(1, 0);
        t.dueThrow("offer a disk in an open crate", roll, Tester.STATE, () -> roll.offer(1, 5));
        roll.seal(0);
        t.dueThrow("offer a disk in a sealed crate", roll, Tester.STATE, () -> roll.offer(1, 5));
        roll.lose(0);
        t.dueThrow("offer a missing disk", roll, Tester.STATE, () -> roll.offer(0, 5));
        t.dueThrow("offer a missing disk to its keeper", roll, Tester.ARGUMENT, () -> roll.offer(0, 3));
    }

    private void promise4Answer() {
        Shredroll roll = new Shredroll();
        roll.bring(0, 0, 3);
        roll.offer(0, 0);
        t.due("answer: sent back", roll.answer(0, false), 3);
        t.due("keeper after sent back", roll.keeperOf(0), 3);
        t.due("offer after sent back", roll.offeredTo(0), NONE);
        t.due("logged() after sent back", roll.logged(), 1);
        t.dueThrow("answer a second time", roll, Tester.STATE, () -> roll.answer(0, true));
        roll.offer(0, 0);
        t.due("answer: taken", roll.answer(0, true), 0);
        t.due("keeper after taken", roll.keeperOf(0), 0);
        t.due("logged keeper after taken", roll.keeperByLog(0), 0);
        t.due("offer after taken", roll.offeredTo(0), NONE);
        t.due("logged() after taken", roll.logged(), 2);
        t.dueThrow("answer after taken", roll, Tester.STATE, () -> roll.answer(0, true));
        t.due("offer back to the first", roll.offer(0, 3), 0);
        roll.lose(0);
        t.dueThrow("answer for a missing disk", roll, Tester.STATE, () -> roll.answer(0, true));
        roll.find(0);
        t.dueThrow("answer an offer that ended", roll, Tester.STATE, () -> roll.answer(0, false));
        for (int disk : Tester.outsideDisks(1)) {
            t.dueThrow("answer for no disk", roll, Tester.INDEX, () -> roll.answer(disk, true));
        }
    }

    // ---- crates

    private void promise5Pack() {
        Shredroll roll = new Shredroll();
        for (int disk = 0; disk < 60; disk++) {
            roll.bring(0, 0, 0);
        }
        t.due("pack another crate's first", roll.pack(59, 0), 1);
        for (int disk = 0; disk < 59; disk++) {
            t.due("pack", roll.pack(disk, 9), disk + 1);
            t.due("crate of a packed disk", roll.crateOf(disk), 9);
        }
        t.due("keeper of a packed disk", roll.keeperOf(0), 0);
        t.due("logged() after pack", roll.logged(), 60);
        roll.lose(0);
        roll.unpack(59);
        t.due("pack beside a missing one", roll.pack(59, 9), 60);
    }

    private void promise5PackRefusals() {
        Shredroll roll = new Shredroll();
        roll.bring(0, 0, 0);
        roll.bring(0, 0, 5);
        for (int disk : Tester.outsideDisks(2)) {
            t.dueThrow("pack no disk", roll, Tester.INDEX, () -> roll.pack(disk, 0));
        }
        for (int crate : Tester.OUTSIDE_CRATES) {
            t.dueThrow("pack into no crate", roll, Tester.INDEX, () -> roll.pack(0, crate));
        }
        t.dueThrow("pack into another keeper's crate", roll, Tester.STATE, () -> roll.pack(1, 0));
        roll.carry(2, 5);
        t.dueThrow("pack into a carried crate", roll, Tester.STATE, () -> roll.pack(0, 2));
        t.due("pack into the keeper's carried crate", roll.pack(1, 2), 1);
        t.dueThrow("pack a packed disk", roll, Tester.STATE, () -> roll.pack(1, 2));
        roll.seal(3);
        t.dueThrow("pack into a sealed crate", roll, Tester.STATE, () -> roll.pack(0, 3));
        roll.offer(0, 1);
        t.dueThrow("pack an offered disk", roll, Tester.STATE, () -> roll.pack(0, 0));
        t.dueThrow("pack an offered disk into no crate", roll, Tester.INDEX, () -> roll.pack(0, 10));
        roll.lose(0);
        t.dueThrow("pack a missing disk", roll, Tester.STATE, () -> roll.pack(0, 0));
        roll.find(0);
        t.due("pack a found disk", roll.pack(0, 0), 1);
        t.dueThrow("pack into a second crate", roll, Tester.STATE, () -> roll.pack(0, 1));
    }

    private void promise6Unpack() {
        Shredroll roll = new Shredroll();
        roll.bring(0, 0, 0);
        roll.bring(0, 0, 0);
        t.dueThrow("unpack out of no crate", roll, Tester.STATE, () -> roll.unpack(0));
        roll.pack(0, 0);
        roll.pack(1, 9);
        t.due("unpack out of crate 0", roll.unpack(0), 0);
        t.due("crate after unpack", roll.crateOf(0), NONE);
        t.due("the other one's crate after unpack", roll.crateOf(1), 9);
        t.due("logged() after unpack", roll.logged(), 2);
        t.dueThrow("unpack twice", roll, Tester.STATE, () -> roll.unpack(0));
        roll.seal(9);
        t.dueThrow("unpack out of a sealed crate", roll, Tester.STATE, () -> roll.unpack(1));
        roll.open(9, 1);
        roll.lose(1);
        t.dueThrow("unpack a missing disk", roll, Tester.STATE, () -> roll.unpack(1));
        roll.find(1);
        t.due("unpack a found disk", roll.unpack(1), 9);
        for (int disk : Tester.outsideDisks(2)) {
            t.dueThrow("unpack no disk", roll, Tester.INDEX, () -> roll.unpack(disk));
        }
    }

    private void promise7Seal() {
        Shredroll roll = new Shredroll();
        for (int crate : Tester.OUTSIDE_CRATES) {
            t.dueThrow("seal no crate", roll, Tester.INDEX, () -> roll.seal(crate));
        }
        for (int crate = 9; crate >= 0; crate--) {
            t.due("seal", roll.seal(crate), 9 - crate);
            t.due("sealOf after seal", roll.sealOf(crate), 9 - crate);
        }
        t.dueThrow("seal a sealed crate", roll, Tester.STATE, () -> roll.seal(4));
        roll.open(4, 0);
        t.due("seal again", roll.seal(4), 10);
        t.due("sealOf after seal again", roll.sealOf(4), 10);
    }

    private void promise7SealLimit() {
        Shredroll roll = new Shredroll();
        for (int seal = 0; seal < 100; seal++) {
            t.due("seal up to 100", roll.seal(seal % 10), seal);
            if (seal < 99) {
                roll.open(seal % 10, 0);
            }
        }
        t.dueThrow("make a 101st seal", roll, Tester.STATE, () -> roll.seal(0));
        t.dueThrow("make a 101st seal on no crate", roll, Tester.INDEX, () -> roll.seal(10));
        t.due("open the 100th seal", roll.open(9, 0), 0);
        t.dueThrow("make a 101st seal after opening", roll, Tester.STATE, () -> roll.seal(9));
    }

    private void promise8Open() {
        Shredroll roll = new Shredroll();
        for (int disk = 0; disk < 5; disk++) {
            roll.bring(0, 0, 0);
            roll.pack(disk, 6);
        }
        roll.lose(4);
        roll.seal(6);
        t.due("open with more counted", roll.open(6, 99), 94);
        t.due("sealOf after open", roll.sealOf(6), NONE);
        t.due("oddCounts() after more", roll.oddCounts(), 1);
        roll.seal(6);
        t.due("open with the same counted, the missing one too", roll.open(6, 5), 0);
        t.due("oddCounts() after the same", roll.oddCounts(), 1);
        roll.seal(6);
        t.due("open with less counted", roll.open(6, 0), -5);
        t.due("oddCounts() after less", roll.oddCounts(), 2);
        roll.seal(6);
        roll.lose(0);
        t.due("a disk lost under the seal counts", roll.open(6, 4), -1);
        roll.unpack(1);
        roll.seal(6);
        t.due("a new seal remembers anew", roll.open(6, 4), 0);
        t.due("crates stay full after open", roll.crateOf(2), 6);
        roll.seal(7);
        t.due("an empty crate is opened by 0", roll.open(7, 0), 0);
    }

    private void promise8OpenRefusals() {
        Shredroll roll = new Shredroll();
        for (int crate : Tester.OUTSIDE_CRATES) {
            t.dueThrow("open no crate", roll, Tester.INDEX, () -> roll.open(crate, 0));
            t.dueThrow("open no crate by no count", roll, Tester.INDEX, () -> roll.open(crate, 100));
        }
        for (int counted : new int[] {-1, 100, 101, Integer.MIN_VALUE, Integer.MAX_VALUE}) {
            t.dueThrow("open an open crate by no count", roll, Tester.ARGUMENT, () -> roll.open(0, counted));
        }
        t.dueThrow("open an open crate", roll, Tester.STATE, () -> roll.open(0, 0));
        roll.seal(0);
        for (int counted : new int[] {-1, 100, 101, Integer.MIN_VALUE, Integer.MAX_VALUE}) {
            t.dueThrow("open by no count", roll, Tester.ARGUMENT, () -> roll.open(0, counted));
        }
        roll.open(0, 0);
        t.dueThrow("open twice", roll, Tester.STATE, () -> roll.open(0, 0));
    }

    private void promise9Carry() {
        Shredroll roll = new Shredroll();
        for (int disk = 0; disk < 4; disk++) {
            roll.bring(0, 0, 0);
        }
        t.due("carry an open crate without disks", roll.carry(1, 7), 0);
        t.due("logged() after an empty crate", roll.logged(), 4);
        t.due("keeper of a disk in no crate", roll.keeperOf(0), 0);
        roll.pack(0, 0);
        roll.pack(1, 0);
        roll.pack(2, 2);
        roll.seal(0);
        roll.lose(1);
        t.due("carry a sealed crate", roll.carry(0, 5), 0);
        t.due("crateKeeper after carry", roll.crateKeeper(0), 5);
        t.due("sealOf after carry", roll.sealOf(0), 0);
        t.due("keeper of a carried disk", roll.keeperOf(0), 5);
        t.due("logged keeper of a carried disk", roll.keeperByLog(0), 5);
        t.due("keeper of a carried missing disk", roll.keeperOf(1), 5);
        t.due("logged keeper of a carried missing disk", roll.keeperByLog(1), 5);
        t.due("keeper of a disk in another crate", roll.keeperOf(2), 0);
        t.due("keeper of a disk in no crate", roll.keeperOf(3), 0);
        t.due("logged() after a crate with two", roll.logged(), 6);
        t.due("carry it on", roll.carry(0, 6), 5);
        t.due("logged() after carrying on", roll.logged(), 8);
        t.due("has(6) after carrying on", roll.has(6), 2);
        roll.seal(1);
        t.due("carry a sealed crate without disks", roll.carry(1, 0), 7);
        t.due("logged() after a sealed crate without disks", roll.logged(), 8);
    }

    private void promise9CarryRefusals() {
        Shredroll roll = new Shredroll();
        roll.bring(0, 0, 0);
        roll.pack(0, 0);
        for (int crate : Tester.OUTSIDE_CRATES) {
            t.dueThrow("carry no crate", roll, Tester.INDEX, () -> roll.carry(crate, 1));
        }
        for (int keeper : Tester.OUTSIDE_KEEPERS) {
            t.dueThrow("carry to nobody", roll, Tester.INDEX, () -> roll.carry(0, keeper));
        }
        t.dueThrow("carry an open crate with a disk", roll, Tester.STATE, () -> roll.carry(0, 1));
        t.dueThrow("carry an open crate with a disk to its keeper", roll, Tester.ARGUMENT, () -> roll.carry(0, 0));
        t.dueThrow("carry an empty crate to its keeper", roll, Tester.ARGUMENT, () -> roll.carry(1, 0));
        roll.lose(0);
        t.dueThrow("carry an open crate with a missing disk", roll, Tester.STATE, () -> roll.carry(0, 1));
        roll.seal(0);
        t.dueThrow("carry a sealed crate to its keeper", roll, Tester.ARGUMENT, () -> roll.carry(0, 0));
        t.due("carry it when sealed", roll.carry(0, 1), 0);
        roll.open(0, 1);
        t.dueThrow("carry it when open again", roll, Tester.STATE, () -> roll.carry(0, 2));
        roll.find(0);
        roll.unpack(0);
        t.due("carry it when empty again", roll.carry(0, 2), 1);
    }

    // ---- wiping

    private void promise10WipeWays() {
        for (int kind = 0; kind < 3; kind++) {
            for (int secrecy = 0; secrecy < 4; secrecy++) {
                for (int way = 0; way < 3; way++) {
                    Shredroll roll = new Shredroll();
                    roll.bring(kind, secrecy, 3);
                    int due = way == kind && secrecy != 3 ? WIPED : SPOILED;
                    String what = "kind " + kind + ", secrecy " + secrecy + ", way " + way;
                    t.due("wipe " + what, roll.wipe(0, way, 4), due);
                    t.due("state after wipe " + what, roll.stateOf(0), due);
                    t.due("isDone after wipe " + what, roll.isDone(0), false);
                    t.due("logged() after wipe " + what, roll.logged(), 1);
                }
            }
        }
    }

    private void promise10WipeAgain() {
        Shredroll roll = new Shredroll();
        roll.bring(1, 2, 3);
        t.due("wipe by a way that does not suit", roll.wipe(0, 2, 0), SPOILED);
        t.due("wipe a spoiled one so again", roll.wipe(0, 0, 7), SPOILED);
        t.due("wipe a spoiled one by a way that suits", roll.wipe(0, 1, 7), WIPED);
        t.due("a bad check", roll.check(0, 7, false), SPOILED);
        t.due("wipe after a bad check", roll.wipe(0, 1, 7), WIPED);
        t.due("not done before a new check", roll.isDone(0), false);
        roll.check(0, 7, true);
        roll.check(0, 7, false);
        roll.wipe(0, 1, 7);
        t.due("the good check before the wiping counts no more", roll.isDone(0), false);
        roll.bring(0, 3, 3);
        roll.pack(0, fetchCrate(roll, 3));
        t.due("wipe in no crate with the secrecy 3", roll.wipe(1, 0, 0), SPOILED);
        roll.check(0, 7, false);
        t.due("wipe in an open crate", roll.wipe(0, 1, 0), WIPED);
    }

    private static int fetchCrate(Shredroll roll, int keeper) {
        roll.carry(4, keeper);
        return 4;
    }

    private void promise10WipeRefusals() {
        Shredroll roll = new Shredroll();
        roll.bring(0, 0, 0);
        roll.bring(0, 0, 3);
        for (int disk : Tester.outsideDisks(2)) {
            t.dueThrow("wipe no disk", roll, Tester.INDEX, () -> roll.wipe(disk, 0, 1));
        }
        for (int witness : Tester.OUTSIDE_KEEPERS) {
            t.dueThrow("wipe before nobody", roll, Tester.INDEX, () -> roll.wipe(0, 0, witness));
            t.dueThrow("wipe by no way before nobody", roll, Tester.INDEX, () -> roll.wipe(0, 3, witness));
        }
        for (int way : new int[] {-1, 3, 4, Integer.MIN_VALUE, Integer.MAX_VALUE}) {
            t.dueThrow("wipe by no way", roll, Tester.ARGUMENT, () -> roll.wipe(0, way, 1));
        }
        t.dueThrow("wipe before its keeper", roll, Tester.ARGUMENT, () -> roll.wipe(1, 0, 3));
        roll.offer(1, 4);
        t.dueThrow("wipe an offered disk", roll, Tester.STATE, () -> roll.wipe(1, 0, 4));
        t.dueThrow("wipe an offered disk before its keeper", roll, Tester.ARGUMENT, () -> roll.wipe(1, 0, 3));
        t.dueThrow("wipe an offered disk by no way", roll, Tester.ARGUMENT, () -> roll.wipe(1, 3, 4));
        roll.lose(1);
        t.dueThrow("wipe a missing disk", roll, Tester.STATE, () -> roll.wipe(1, 0, 4));
        t.dueThrow("wipe a missing disk before its keeper", roll, Tester.ARGUMENT, () -> roll.wipe(1, 0, 3));
        roll.find(1);
        t.due("wipe a found disk", roll.wipe(1, 0, 4), WIPED);
        t.dueThrow("wipe a wiped disk", roll, Tester.STATE, () -> roll.wipe(1, 0, 4));
        t.dueThrow("wipe a wiped disk by another way", roll, Tester.STATE, () -> roll.wipe(1, 1, 4));
        roll.smash(1, 4);
        t.dueThrow("wipe a broken disk", roll, Tester.STATE, () -> roll.wipe(1, 0, 4));
        roll.pack(0, 0);
        roll.seal(0);
        t.dueThrow("wipe a disk in a sealed crate", roll, Tester.STATE, () -> roll.wipe(0, 0, 1));
        t.dueThrow("wipe it before its keeper", roll, Tester.ARGUMENT, () -> roll.wipe(0, 0, 0));
    }

    private void promise11Smash() {
        Shredroll roll = new Shredroll();
        for (int disk = 0; disk < 3; disk++) {
            roll.bring(disk, 0, 2);
        }
        roll.wipe(1, 1, 0);
        roll.wipe(2, 0, 0);
        t.due("smash a raw disk", roll.smash(0, 0), RAW);
        t.due("smash a wiped disk", roll.smash(1, 7), WIPED);
        t.due("smash a spoiled disk", roll.smash(2, 3), SPOILED);
        for (int disk = 0; disk < 3; disk++) {
            t.due("state after smash", roll.stateOf(disk), BROKEN);
            t.due("isDone after smash", roll.isDone(disk), true);
        }
        t.due("logged() after smash", roll.logged(), 3);
        roll.bring(0, 3, 0);
        roll.pack(3, 0);
        t.due("smash in an open crate, secrecy 3", roll.smash(3, 1), RAW);
    }

    private void promise11SmashRefusals() {
        Shredroll roll = new Shredroll();
        roll.bring(0, 0, 0);
        roll.bring(0, 0, 3);
        for (int disk : Tester.outsideDisks(2)) {
            t.dueThrow("smash no disk", roll, Tester.INDEX, () -> roll.smash(disk, 1));
        }
        for (int witness : Tester.OUTSIDE_KEEPERS) {
            t.dueThrow("smash before nobody", roll, Tester.INDEX, () -> roll.smash(0, witness));
        }
        t.dueThrow("smash before its keeper", roll, Tester.ARGUMENT, () -> roll.smash(1, 3));
        roll.offer(1, 4);
        t.dueThrow("smash an offered disk", roll, Tester.STATE, () -> roll.smash(1, 4));
        t.dueThrow("smash an offered disk before its keeper", roll, Tester.ARGUMENT, () -> roll.smash(1, 3));
        roll.lose(1);
        t.dueThrow("smash a missing disk", roll, Tester.STATE, () -> roll.smash(1, 4));
        roll.find(1);
        roll.smash(1, 4);
        t.dueThrow("smash a broken disk", roll, Tester.STATE, () -> roll.smash(1, 4));
        t.dueThrow("smash a broken disk before its keeper", roll, Tester.ARGUMENT, () -> roll.smash(1, 3));
        roll.pack(0, 0);
        roll.seal(0);
        t.dueThrow("smash a disk in a sealed crate", roll, Tester.STATE, () -> roll.smash(0, 1));
    }

    private void promise12Check() {
        Shredroll roll = new Shredroll();
        roll.bring(0, 0, 0);
        roll.wipe(0, 0, 4);
        t.due("a good check by the witness", roll.check(0, 4, true), WIPED);
        t.due("isDone after a good check", roll.isDone(0), true);
        t.due("a second good check by another one", roll.check(0, 7, true), WIPED);
        t.due("isDone after two good checks", roll.isDone(0), true);
        t.due("a bad check after good ones", roll.check(0, 5, false), SPOILED);
        t.due("state after a bad check", roll.stateOf(0), SPOILED);
        t.due("isDone after a bad check", roll.isDone(0), false);
        t.dueThrow("check a spoiled disk", roll, Tester.STATE, () -> roll.check(0, 5, true));
        roll.wipe(0, 0, 4);
        roll.pack(0, 0);
        t.due("a check in an open crate", roll.check(0, 4, true), WIPED);
        t.due("logged() after checks", roll.logged(), 1);
    }

    private void promise12CheckDoer() {
        Shredroll roll = new Shredroll();
        roll.bring(0, 0, 2);
        roll.wipe(0, 0, 4);
        t.dueThrow("check by the doer", roll, Tester.ARGUMENT, () -> roll.check(0, 2, true));
        roll.offer(0, 6);
        roll.answer(0, true);
        t.dueThrow("check by the doer, another keeper now", roll, Tester.ARGUMENT, () -> roll.check(0, 2, false));
        t.due("a check by the keeper who did not wipe it", roll.check(0, 6, false), SPOILED);
        t.dueThrow("check a spoiled disk by its doer", roll, Tester.STATE, () -> roll.check(0, 2, true));
        roll.wipe(0, 0, 4);
        t.dueThrow("check by the new doer", roll, Tester.ARGUMENT, () -> roll.check(0, 6, true));
        t.due("a check by the first doer", roll.check(0, 2, true), WIPED);
        roll.offer(0, 1);
        t.dueThrow("check an offered disk by its doer", roll, Tester.ARGUMENT, () -> roll.check(0, 6, true));
        roll.lose(0);
        t.dueThrow("check a missing disk by its doer", roll, Tester.ARGUMENT, () -> roll.check(0, 6, true));
        roll.find(0);
        roll.smash(0, 0);
        t.dueThrow("check a broken disk by its doer", roll, Tester.STATE, () -> roll.check(0, 6, true));
    }

    private void promise12CheckRefusals() {
        Shredroll roll = new Shredroll();
        roll.bring(0, 0, 0);
        for (int disk : Tester.outsideDisks(1)) {
            t.dueThrow("check no disk", roll, Tester.INDEX, () -> roll.check(disk, 1, true));
        }
        for (int witness : Tester.OUTSIDE_KEEPERS) {
            t.dueThrow("check by nobody", roll, Tester.INDEX, () -> roll.check(0, witness, true));
        }
        t.dueThrow("check a raw disk", roll, Tester.STATE, () -> roll.check(0, 1, true));
        t.dueThrow("check a raw disk by its keeper", roll, Tester.STATE, () -> roll.check(0, 0, false));
        roll.wipe(0, 0, 1);
        roll.offer(0, 1);
        t.dueThrow("check an offered disk", roll, Tester.STATE, () -> roll.check(0, 1, false));
        roll.lose(0);
        t.dueThrow("check a missing disk", roll, Tester.STATE, () -> roll.check(0, 1, false));
        roll.find(0);
        roll.pack(0, 0);
        roll.seal(0);
        t.dueThrow("check a disk in a sealed crate", roll, Tester.STATE, () -> roll.check(0, 1, true));
        t.dueThrow("check it by its doer", roll, Tester.ARGUMENT, () -> roll.check(0, 0, true));
        roll.open(0, 1);
        t.due("check it when open", roll.check(0, 1, true), WIPED);
        roll.smash(0, 1);
        t.dueThrow("check a broken disk", roll, Tester.STATE, () -> roll.check(0, 1, true));
    }

    // ---- missing disks and certificates

    private void promise13Lose() {
        Shredroll roll = new Shredroll();
        roll.bring(0, 0, 5);
        roll.bring(0, 0, 5);
        roll.offer(0, 2);
        t.due("lose an offered disk", roll.lose(0), 5);
        t.due("offer of a lost disk", roll.offeredTo(0), NONE);
        t.due("keeper of a lost disk", roll.keeperOf(0), 5);
        t.due("has(5) with a lost disk", roll.has(5), 2);
        t.due("missing() after lose", roll.missing(), 1);
        t.due("logged() after lose", roll.logged(), 2);
        t.dueThrow("lose twice", roll, Tester.STATE, () -> roll.lose(0));
        t.due("lose the other one", roll.lose(1), 5);
        t.due("missing() after two", roll.missing(), 2);
        for (int disk : Tester.outsideDisks(2)) {
            t.dueThrow("lose no disk", roll, Tester.INDEX, () -> roll.lose(disk));
        }
    }

    private void promise13LoseInCrate() {
        Shredroll roll = new Shredroll();
        roll.bring(0, 0, 0);
        roll.bring(0, 0, 0);
        roll.pack(0, 3);
        roll.lose(0);
        t.due("crate of a lost disk", roll.crateOf(0), 3);
        t.due("a lost disk counts in its crate", roll.pack(1, 3), 2);
        roll.seal(3);
        t.due("lose out of a sealed crate", roll.lose(1), 0);
        t.due("crate of a disk lost out of a sealed one", roll.crateOf(1), 3);
        t.due("find in a sealed crate", roll.find(1), 3);
    }

    private void promise14Find() {
        Shredroll roll = new Shredroll();
        roll.bring(0, 0, 0);
        t.dueThrow("find a disk that is not missing", roll, Tester.STATE, () -> roll.find(0));
        roll.lose(0);
        t.due("find in no crate", roll.find(0), NONE);
        t.due("missing() after find", roll.missing(), 0);
        t.dueThrow("find twice", roll, Tester.STATE, () -> roll.find(0));
        roll.pack(0, 0);
        roll.lose(0);
        t.due("find in crate 0", roll.find(0), 0);
        roll.unpack(0);
        roll.wipe(0, 0, 1);
        roll.check(0, 1, true);
        roll.lose(0);
        t.due("a done disk is done when missing", roll.isDone(0), true);
        roll.find(0);
        t.due("state after find", roll.stateOf(0), WIPED);
        t.due("isDone after find", roll.isDone(0), true);
        for (int disk : Tester.outsideDisks(1)) {
            t.dueThrow("find no disk", roll, Tester.INDEX, () -> roll.find(disk));
        }
    }

    private void promise15Certify() {
        Shredroll roll = new Shredroll();
        for (int disk = 0; disk < 6; disk++) {
            roll.bring(0, 0, disk == 5 ? 6 : 7);
        }
        roll.smash(0, 0);
        roll.wipe(1, 0, 0);
        roll.check(1, 0, true);
        roll.wipe(2, 0, 0);
        roll.smash(3, 0);
        roll.lose(3);
        roll.smash(5, 0);
        t.due("certify", roll.certify(7), 2);
        t.due("a broken disk's certificate", roll.certificateOf(0), 0);
        t.due("a checked disk's certificate", roll.certificateOf(1), 0);
        t.due("an unchecked disk's certificate", roll.certificateOf(2), NONE);
        t.due("a missing disk's certificate", roll.certificateOf(3), NONE);
        t.due("a raw disk's certificate", roll.certificateOf(4), NONE);
        t.due("another keeper's disk's certificate", roll.certificateOf(5), NONE);
        t.due("certificates() after one", roll.certificates(), 1);
        t.dueThrow("certify again", roll, Tester.NO_ELEMENT, () -> roll.certify(7));
        roll.find(3);
        t.due("certify the found one", roll.certify(7), 1);
        t.due("the found one's certificate", roll.certificateOf(3), 1);
        t.due("certify another keeper", roll.certify(6), 1);
        t.due("another keeper's certificate", roll.certificateOf(5), 2);
        t.due("the first certificate stays", roll.certificateOf(0), 0);
        t.due("certificates() after three", roll.certificates(), 3);
        t.due("logged() after certify", roll.logged(), 6);
    }

    private void promise15CertifyAnywhere() {
        Shredroll roll = new Shredroll();
        for (int disk = 0; disk < 3; disk++) {
            roll.bring(0, 0, 0);
            roll.wipe(disk, 0, 1);
            roll.check(disk, 1, true);
        }
        roll.pack(0, 0);
        roll.seal(0);
        roll.pack(1, 1);
        roll.offer(2, 1);
        t.due("certify disks in crates and an offered one", roll.certify(0), 3);
        roll.answer(2, true);
        roll.carry(0, 1);
        t.dueThrow("certify them for the next keeper", roll, Tester.NO_ELEMENT, () -> roll.certify(1));
        t.due("a bad check after the certificate", roll.check(1, 2, false), SPOILED);
        t.due("the certificate after a bad check", roll.certificateOf(1), 0);
        roll.smash(1, 2);
        t.dueThrow("certify it when broken", roll, Tester.NO_ELEMENT, () -> roll.certify(0));
        t.due("the certificate of the taken one", roll.certificateOf(2), 0);
        t.due("certificates()", roll.certificates(), 1);
    }

    private void promise15CertifyRefusals() {
        Shredroll roll = new Shredroll();
        for (int keeper = 0; keeper < 8; keeper++) {
            int asked = keeper;
            t.dueThrow("certify without disks", roll, Tester.NO_ELEMENT, () -> roll.certify(asked));
        }
        for (int keeper : Tester.OUTSIDE_KEEPERS) {
            t.dueThrow("certify nobody", roll, Tester.INDEX, () -> roll.certify(keeper));
        }
        roll.bring(0, 0, 0);
        t.dueThrow("certify a raw disk", roll, Tester.NO_ELEMENT, () -> roll.certify(0));
        roll.smash(0, 1);
        roll.lose(0);
        t.dueThrow("certify a missing disk", roll, Tester.NO_ELEMENT, () -> roll.certify(0));
        t.dueThrow("certify the keeper beside", roll, Tester.NO_ELEMENT, () -> roll.certify(1));
        roll.find(0);
        t.due("certify a found disk", roll.certify(0), 1);
        t.due("its certificate is the first", roll.certificateOf(0), 0);
    }

    // ---- what is asked

    private void promises16To30OutOfRange() {
        Shredroll roll = new Shredroll();
        roll.bring(0, 0, 0);
        roll.bring(0, 0, 0);
        for (int disk : Tester.outsideDisks(2)) {
            t.dueThrow("keeperOf no disk", roll, Tester.INDEX, () -> roll.keeperOf(disk));
            t.dueThrow("keeperByLog no disk", roll, Tester.INDEX, () -> roll.keeperByLog(disk));
            t.dueThrow("crateOf no disk", roll, Tester.INDEX, () -> roll.crateOf(disk));
            t.dueThrow("stateOf no disk", roll, Tester.INDEX, () -> roll.stateOf(disk));
            t.dueThrow("isDone no disk", roll, Tester.INDEX, () -> roll.isDone(disk));
            t.dueThrow("offeredTo no disk", roll, Tester.INDEX, () -> roll.offeredTo(disk));
            t.dueThrow("certificateOf no disk", roll, Tester.INDEX, () -> roll.certificateOf(disk));
        }
        for (int crate : Tester.OUTSIDE_CRATES) {
            t.dueThrow("crateKeeper no crate", roll, Tester.INDEX, () -> roll.crateKeeper(crate));
            t.dueThrow("sealOf no crate", roll, Tester.INDEX, () -> roll.sealOf(crate));
        }
        for (int keeper : Tester.OUTSIDE_KEEPERS) {
            t.dueThrow("has nobody", roll, Tester.INDEX, () -> roll.has(keeper));
        }
    }

    private void promises17And18Keepers() {
        Shredroll roll = new Shredroll();
        roll.bring(0, 0, 0);
        roll.bring(0, 0, 7);
        roll.pack(0, 0);
        roll.seal(0);
        for (int to = 1; to < 8; to++) {
            roll.carry(0, to);
            t.due("keeperOf after carry", roll.keeperOf(0), to);
            t.due("keeperByLog after carry", roll.keeperByLog(0), to);
            t.due("keeperOf the other one", roll.keeperOf(1), 7);
            t.due("keeperByLog the other one", roll.keeperByLog(1), 7);
        }
    }

    private void promise21IsDone() {
        Shredroll roll = new Shredroll();
        roll.bring(0, 0, 0);
        t.due("a raw disk is done", roll.isDone(0), false);
        roll.wipe(0, 1, 1);
        t.due("a spoiled disk is done", roll.isDone(0), false);
        roll.wipe(0, 0, 1);
        t.due("a wiped disk is done", roll.isDone(0), false);
        roll.check(0, 1, true);
        t.due("a checked disk is done", roll.isDone(0), true);
        roll.certify(0);
        t.due("a certified disk is done", roll.isDone(0), true);
        roll.offer(0, 3);
        roll.answer(0, true);
        t.due("a done disk is done with another keeper", roll.isDone(0), true);
        roll.smash(0, 1);
        t.due("a broken disk is done", roll.isDone(0), true);
    }

    private void promises24And25Crates() {
        Shredroll roll = new Shredroll();
        for (int crate = 1; crate < 8; crate++) {
            t.due("carry an empty crate", roll.carry(crate, crate), 0);
        }
        roll.seal(5);
        roll.seal(2);
        for (int crate = 0; crate < 10; crate++) {
            t.due("crateKeeper", roll.crateKeeper(crate), crate < 8 ? crate : 0);
            t.due("sealOf", roll.sealOf(crate), crate == 5 ? 0 : crate == 2 ? 1 : NONE);
        }
        roll.open(5, 0);
        t.due("sealOf the opened one", roll.sealOf(5), NONE);
        t.due("crateKeeper of the opened one", roll.crateKeeper(5), 5);
        t.due("sealOf the other one", roll.sealOf(2), 1);
    }

    private void promise26Has() {
        Shredroll roll = new Shredroll();
        for (int disk = 0; disk < 36; disk++) {
            roll.bring(0, 0, keeperOfTriangle(disk));
        }
        for (int keeper = 0; keeper < 8; keeper++) {
            t.due("has", roll.has(keeper), keeper + 1);
        }
        roll.lose(35);
        t.due("has with a missing one", roll.has(7), 8);
        roll.offer(34, 0);
        t.due("has while offered", roll.has(7), 8);
        roll.answer(34, true);
        t.due("has less after taken", roll.has(7), 7);
        t.due("has more after taken", roll.has(0), 2);
    }

    /** Keeper k is told k + 1 times: 0, 1, 1, 2, 2, 2, .. */
    private static int keeperOfTriangle(int disk) {
        int keeper = 0;
        for (int next = 1; disk >= next; next += keeper + 1) {
            keeper++;
        }
        return keeper;
    }

    private void promise28OddCounts() {
        Shredroll roll = new Shredroll();
        int odd = 0;
        for (int counted = 0; counted < 30; counted++) {
            roll.seal(0);
            int off = counted % 3;
            t.due("open", roll.open(0, off), off);
            odd += off == 0 ? 0 : 1;
            t.due("oddCounts()", roll.oddCounts(), odd);
        }
    }

    private void promise29Logged() {
        Shredroll roll = new Shredroll();
        for (int disk = 0; disk < 60; disk++) {
            roll.bring(0, 0, 0);
            roll.pack(disk, 0);
        }
        roll.seal(0);
        for (int carried = 1; carried <= 390; carried++) {
            roll.carry(0, carried % 2);
        }
        t.due("logged() after the longest run", roll.logged(), 60 + 390 * 60);
        t.due("keeperByLog after the longest run", roll.keeperByLog(59), 0);
    }

    private void objectsAreApart() {
        Shredroll one = new Shredroll();
        Shredroll other = new Shredroll();
        one.bring(0, 0, 1);
        one.seal(0);
        one.smash(0, 0);
        one.certify(1);
        t.due("all of another object", Tester.picture(other), Tester.picture(new Shredroll()));
        t.due("the first disk of another object", other.bring(1, 1, 1), 0);
        t.due("the first seal of another object", other.seal(3), 0);
    }
}
