import java.util.NoSuchElementException;

/** A book of worn-out disks; DOC.md tells what each call promises. */
public final class Shredroll {
    public static final int NONE = -1;
    public static final int RAW = 0, WIPED = 1, SPOILED = 2, BROKEN = 3;

    private static final int KEEPERS = 8;
    private static final int CRATES = 10;
    private static final int KINDS = 3;
    private static final int SECRECIES = 4;
    private static final int TOO_SECRET_TO_WIPE = 3;
    private static final int MOST_DISKS = 60;
    private static final int MOST_SEALS = 100;
    private static final int MOST_COUNTED = 99;

    private final Disk[] broughtDisks;
    private final Crate[] allCrates;
    private int diskCount;
    private int sealCount;
    private int oddCount;
    private int logCount;
    private int certificateCount;

    public Shredroll() {
        broughtDisks = new Disk[MOST_DISKS];
        allCrates = new Crate[CRATES];
        for (int i = 0; i < CRATES; i++) {
            allCrates[i] = new Crate(i);
        }
    }

    // ---- disks and hands

    public int bring(int kind, int secrecy, int keeper)
            throws IndexOutOfBoundsException, IllegalArgumentException, IllegalStateException {
        requireKeeper(keeper);
        if (kind < 0 || kind >= KINDS || secrecy < 0 || secrecy >= SECRECIES) {
            throw new IllegalArgumentException("kind or secrecy is out of range");
        }
        if (diskCount < 0 || diskCount >= broughtDisks.length) {
            throw new IllegalStateException("no more disks can be brought");
        }
        Disk disk = new Disk(kind, secrecy);
        int number = diskCount;
        broughtDisks[number] = disk;
        diskCount++;
        handOver(disk, keeper);
        return number;
    }

    public int offer(int disk, int to)
            throws IndexOutOfBoundsException, IllegalArgumentException, IllegalStateException {
        Disk offered = findDisk(disk);
        requireKeeper(to);
        if (to == offered.keeper) {
            throw new IllegalArgumentException("the disk is offered to its keeper");
        }
        requireLoose(offered);
        offered.offeredTo = to;
        return offered.keeper;
    }

    public int answer(int disk, boolean takes) throws IndexOutOfBoundsException, IllegalStateException {
        Disk offered = findDisk(disk);
        if (offered.isMissing || offered.offeredTo == NONE) {
            throw new IllegalStateException("the disk is missing or not offered");
        }
        int to = offered.offeredTo;
        offered.offeredTo = NONE;
        if (takes) {
            handOver(offered, to);
        }
        return offered.keeper;
    }

    // ---- crates

    public int pack(int disk, int crate) throws IndexOutOfBoundsException, IllegalStateException {
        Disk packed = findDisk(disk);
        Crate into = findCrate(crate);
        requireLoose(packed);
        if (into.isSealed() || into.keeper != packed.keeper) {
            throw new IllegalStateException("the crate is sealed or with another keeper");
        }
        packed.crate = into;
        return countDisksIn(into);
    }

    public int unpack(int disk) throws IndexOutOfBoundsException, IllegalStateException {
        Disk unpacked = findDisk(disk);
        Crate from = unpacked.crate;
        if (unpacked.isMissing || from == null || from.isSealed()) {
            throw new IllegalStateException("the disk is missing, in no crate or in a sealed one");
        }
        unpacked.crate = null;
        return from.number;
    }

    public int seal(int crate) throws IndexOutOfBoundsException, IllegalStateException {
        Crate closed = findCrate(crate);
        if (closed.isSealed() || sealCount >= MOST_SEALS) {
            throw new IllegalStateException("the crate is sealed or no more seals can be made");
        }
        closed.seal = sealCount;
        closed.remembered = countDisksIn(closed);
        sealCount++;
        return closed.seal;
    }

    public int open(int crate, int counted)
            throws IndexOutOfBoundsException, IllegalArgumentException, IllegalStateException {
        Crate opened = findCrate(crate);
        if (counted < 0 || counted > MOST_COUNTED) {
            throw new IllegalArgumentException("the count is out of range");
        }
        if (!opened.isSealed()) {
            throw new IllegalStateException("the crate is open");
        }
        int above = counted - opened.remembered;
        opened.seal = NONE;
        if (above != 0) {
            oddCount++;
        }
        return above;
    }

    public int carry(int crate, int to)
            throws IndexOutOfBoundsException, IllegalArgumentException, IllegalStateException {
        Crate carried = findCrate(crate);
        requireKeeper(to);
        if (to == carried.keeper) {
            throw new IllegalArgumentException("the crate is carried to its keeper");
        }
        if (!carried.isSealed() && countDisksIn(carried) > 0) {
            throw new IllegalStateException("the crate is open and has disks");
        }
        int before = carried.keeper;
        carried.keeper = to;
        handOverDisksIn(carried);
        return before;
    }

    // ---- wiping

    public int wipe(int disk, int way, int witness)
            throws IndexOutOfBoundsException, IllegalArgumentException, IllegalStateException {
        Disk wiped = findDisk(disk);
        requireKeeper(witness);
        if (way < 0 || way >= KINDS) {
            throw new IllegalArgumentException("there is no such way");
        }
        requireWitnessIsNotKeeper(wiped, witness);
        requireWithinReach(wiped);
        if (wiped.state == WIPED || wiped.state == BROKEN) {
            throw new IllegalStateException("the disk is wiped or broken");
        }
        boolean succeeds = way == wiped.kind && wiped.secrecy < TOO_SECRET_TO_WIPE;
        wiped.state = succeeds ? WIPED : SPOILED;
        wiped.doer = wiped.keeper;
        wiped.isFoundGood = false;
        return wiped.state;
    }

    public int smash(int disk, int witness)
            throws IndexOutOfBoundsException, IllegalArgumentException, IllegalStateException {
        Disk smashed = findDisk(disk);
        requireKeeper(witness);
        requireWitnessIsNotKeeper(smashed, witness);
        requireWithinReach(smashed);
        if (smashed.state == BROKEN) {
            throw new IllegalStateException("the disk is broken");
        }
        int before = smashed.state;
        smashed.state = BROKEN;
        return before;
    }

    public int check(int disk, int witness, boolean isGood)
            throws IndexOutOfBoundsException, IllegalArgumentException, IllegalStateException {
        Disk checked = findDisk(disk);
        requireKeeper(witness);
        if (checked.state == WIPED && witness == checked.doer) {
            throw new IllegalArgumentException("the witness wiped the disk");
        }
        requireWithinReach(checked);
        if (checked.state != WIPED) {
            throw new IllegalStateException("the disk is not wiped");
        }
        checked.isFoundGood = isGood;
        if (!isGood) {
            checked.state = SPOILED;
        }
        return checked.state;
    }

    // ---- missing disks and certificates

    public int lose(int disk) throws IndexOutOfBoundsException, IllegalStateException {
        Disk lost = findDisk(disk);
        if (lost.isMissing) {
            throw new IllegalStateException("the disk is missing");
        }
        lost.isMissing = true;
        lost.offeredTo = NONE;
        return lost.keeper;
    }

    public int find(int disk) throws IndexOutOfBoundsException, IllegalStateException {
        Disk found = findDisk(disk);
        if (!found.isMissing) {
            throw new IllegalStateException("the disk is not missing");
        }
        found.isMissing = false;
        return found.crateNumber();
    }

    public int certify(int keeper) throws IndexOutOfBoundsException, NoSuchElementException {
        requireKeeper(keeper);
        int count = 0;
        for (Disk disk : broughtDisks) {
            if (disk != null && disk.keeper == keeper && disk.awaitsCertificate()) {
                disk.certificate = certificateCount;
                count++;
            }
        }
        if (count == 0) {
            throw new NoSuchElementException("no disk would be on the certificate");
        }
        certificateCount++;
        return count;
    }

    // ---- what is asked

    public int disks() {
        return diskCount;
    }

    public int keeperOf(int disk) throws IndexOutOfBoundsException {
        return findDisk(disk).keeper;
    }

    public int keeperByLog(int disk) throws IndexOutOfBoundsException {
        return findDisk(disk).loggedKeeper;
    }

    public int crateOf(int disk) throws IndexOutOfBoundsException {
        return findDisk(disk).crateNumber();
    }

    public int stateOf(int disk) throws IndexOutOfBoundsException {
        return findDisk(disk).state;
    }

    public boolean isDone(int disk) throws IndexOutOfBoundsException {
        return findDisk(disk).isFinished();
    }

    public int offeredTo(int disk) throws IndexOutOfBoundsException {
        return findDisk(disk).offeredTo;
    }

    public int certificateOf(int disk) throws IndexOutOfBoundsException {
        return findDisk(disk).certificate;
    }

    public int crateKeeper(int crate) throws IndexOutOfBoundsException {
        return findCrate(crate).keeper;
    }

    public int sealOf(int crate) throws IndexOutOfBoundsException {
        return findCrate(crate).seal;
    }

    public int has(int keeper) throws IndexOutOfBoundsException {
        requireKeeper(keeper);
        int count = 0;
        for (Disk disk : broughtDisks) {
            if (disk != null && disk.keeper == keeper) {
                count++;
            }
        }
        return count;
    }

    public int missing() {
        int count = 0;
        for (Disk disk : broughtDisks) {
            if (disk != null && disk.isMissing) {
                count++;
            }
        }
        return count;
    }

    public int oddCounts() {
        return oddCount;
    }

    public int logged() {
        return logCount;
    }

    public int certificates() {
        return certificateCount;
    }

    // ---- what the calls above share

    private Disk findDisk(int number) {
        Disk disk = number < 0 || number >= broughtDisks.length ? null : broughtDisks[number];
        if (disk == null) {
            throw new IndexOutOfBoundsException("there is no such disk");
        }
        return disk;
    }

    private Crate findCrate(int number) {
        Crate crate = number < 0 || number >= allCrates.length ? null : allCrates[number];
        if (crate == null) {
            throw new IndexOutOfBoundsException("there is no such crate");
        }
        return crate;
    }

    private int countDisksIn(Crate crate) {
        int count = 0;
        for (Disk disk : broughtDisks) {
            if (disk != null && disk.crateNumber() == crate.number) {
                count++;
            }
        }
        return count;
    }

    private void handOverDisksIn(Crate crate) {
        for (Disk disk : broughtDisks) {
            if (disk != null && disk.crateNumber() == crate.number) {
                handOver(disk, crate.keeper);
            }
        }
    }

    // Of the log only its length and the newest entry of each disk are ever asked,
    // so only these are kept.
    private void handOver(Disk disk, int to) {
        disk.keeper = to;
        disk.loggedKeeper = to;
        logCount++;
    }

    private static void requireKeeper(int keeper) {
        if (keeper < 0 || keeper >= KEEPERS) {
            throw new IndexOutOfBoundsException("there is no such keeper");
        }
    }

    private static void requireLoose(Disk disk) {
        if (disk.isMissing || disk.offeredTo != NONE || disk.crate != null) {
            throw new IllegalStateException("the disk is missing, offered or in a crate");
        }
    }

    private static void requireWithinReach(Disk disk) {
        if (disk.isMissing || disk.offeredTo != NONE || disk.isSealedIn()) {
            throw new IllegalStateException("the disk is missing, offered or in a sealed crate");
        }
    }

    private static void requireWitnessIsNotKeeper(Disk disk, int witness) {
        if (witness == disk.keeper) {
            throw new IllegalArgumentException("the witness is the keeper of the disk");
        }
    }

    private static final class Crate {
        final int number;
        int keeper;
        int seal = NONE;
        int remembered;

        Crate(int number) {
            this.number = number;
        }

        boolean isSealed() {
            return seal != NONE;
        }
    }

    private static final class Disk {
        final int kind;
        final int secrecy;
        int keeper;
        int loggedKeeper;
        Crate crate;
        int offeredTo = NONE;
        int state = RAW;
        int doer = NONE;
        boolean isFoundGood;
        boolean isMissing;
        int certificate = NONE;

        Disk(int kind, int secrecy) {
            this.kind = kind;
            this.secrecy = secrecy;
        }

        int crateNumber() {
            return crate == null ? NONE : crate.number;
        }

        boolean isSealedIn() {
            return crate != null && crate.isSealed();
        }

        boolean isFinished() {
            return state == BROKEN || state == WIPED && isFoundGood;
        }

        boolean awaitsCertificate() {
            return isFinished() && !isMissing && certificate == NONE;
        }
    }
}
