import java.util.ArrayList;
import java.util.Arrays;
import java.util.List;

/**
 * Long runs of calls, each answer compared with a second model of the document. The model keeps
 * nothing but the list of what happened and works out every answer from it, so that it can't share
 * a slip of bookkeeping with the class.
 */
public final class ModelTest {
    private static final int RUNS = 400;
    private static final int TELLING_CALLS = 300;

    private static final Class<?> INDEX = IndexOutOfBoundsException.class;
    private static final Class<?> ARGUMENT = IllegalArgumentException.class;
    private static final Class<?> STATE = IllegalStateException.class;
    private static final Class<?> NO_ELEMENT = java.util.NoSuchElementException.class;

    private enum Kind { BRING, OFFER, TAKE, REFUSE, PACK, UNPACK, SEAL, OPEN, CARRY, WIPE, SMASH, CHECK, LOSE, FIND, CERTIFY }

    /** What happened: a disk, crate or keeper by its number, and what else was told. */
    private record Event(Kind kind, int what, int... told) { }

    /** What the document asks a call to throw. */
    private static final class Thrown extends RuntimeException {
        private static final long serialVersionUID = 1;
        final Class<?> due;

        Thrown(Class<?> due) {
            this.due = due;
        }
    }

    private static final class Model {
        final List<Event> events = new ArrayList<>();

        void refuseIf(boolean applies, Class<?> due) {
            if (applies) {
                throw new Thrown(due);
            }
        }

        void note(Kind kind, int what, int... told) {
            events.add(new Event(kind, what, told));
        }

        int countOf(Kind kind) {
            return (int) events.stream().filter(e -> e.kind == kind).count();
        }

        /** The last of these events that happened to this one; null if none did. */
        Event last(int what, Kind... kinds) {
            Event found = null;
            for (Event e : events) {
                if (e.what == what && Arrays.asList(kinds).contains(e.kind)) {
                    found = e;
                }
            }
            return found;
        }

        int at(Event event) {
            for (int i = 0; i < events.size(); i++) {
                if (events.get(i) == event) {
                    return i;
                }
            }
            return -1;
        }

        int disks() {
            return countOf(Kind.BRING);
        }

        boolean isDisk(int disk) {
            return disk >= 0 && disk < disks();
        }

        static boolean isKeeper(int keeper) {
            return 0 <= keeper && keeper <= 7;
        }

        static boolean isCrate(int crate) {
            return 0 <= crate && crate <= 9;
        }

        int crateOf(int disk) {
            Event e = last(disk, Kind.PACK, Kind.UNPACK);
            return e != null && e.kind == Kind.PACK ? e.told[0] : -1;
        }

        int crateKeeper(int crate) {
            Event e = last(crate, Kind.CARRY);
            return e == null ? 0 : e.told[0];
        }

        /** Each entry of the log: a disk and its new keeper. */
        List<int[]> log() {
            List<int[]> entries = new ArrayList<>();
            int[] crates = new int[60];
            Arrays.fill(crates, -1);
            for (Event e : events) {
                switch (e.kind) {
                    case BRING -> entries.add(new int[] {e.what, e.told[2]});
                    case TAKE -> entries.add(new int[] {e.what, e.told[0]});
                    case PACK -> crates[e.what] = e.told[0];
                    case UNPACK -> crates[e.what] = -1;
                    case CARRY -> {
                        for (int disk = 0; disk < 60; disk++) {
                            if (crates[disk] == e.what) {
                                entries.add(new int[] {disk, e.told[0]});
                            }
                        }
                    }
                    default -> { }
                }
            }
            return entries;
        }

        int keeperOf(int disk) {
            return crateOf(disk) != -1 ? crateKeeper(crateOf(disk)) : keeperByLog(disk);
        }

        int keeperByLog(int disk) {
            int keeper = -1;
            for (int[] entry : log()) {
                keeper = entry[0] == disk ? entry[1] : keeper;
            }
            return keeper;
        }

        int inCrate(int crate) {
            int count = 0;
            for (int disk = 0; disk < disks(); disk++) {
                count += crateOf(disk) == crate ? 1 : 0;
            }
            return count;
        }

        int sealOf(int crate) {
            Event e = last(crate, Kind.SEAL, Kind.OPEN);
            return e != null && e.kind == Kind.SEAL ? e.told[0] : -1;
        }

        boolean isMissing(int disk) {
            Event e = last(disk, Kind.LOSE, Kind.FIND);
            return e != null && e.kind == Kind.LOSE;
        }

        int offeredTo(int disk) {
            Event e = last(disk, Kind.OFFER, Kind.TAKE, Kind.REFUSE, Kind.LOSE);
            return e != null && e.kind == Kind.OFFER ? e.told[0] : -1;
        }

        int kindOf(int disk) {
            return last(disk, Kind.BRING).told[0];
        }

        int secrecyOf(int disk) {
            return last(disk, Kind.BRING).told[1];
        }

        int stateOf(int disk) {
            if (last(disk, Kind.SMASH) != null) {
                return 3;
            }
            Event wiping = last(disk, Kind.WIPE);
            if (wiping == null) {
                return 0;
            }
            if (wiping.told[0] != kindOf(disk) || secrecyOf(disk) > 2) {
                return 2;
            }
            Event checking = last(disk, Kind.CHECK);
            return at(checking) > at(wiping) && checking.told[0] == 0 ? 2 : 1;
        }

        boolean isDone(int disk) {
            Event checking = last(disk, Kind.CHECK);
            boolean checkedGood = checking != null && checking.told[0] == 1 && at(checking) > at(last(disk, Kind.WIPE));
            return stateOf(disk) == 3 || stateOf(disk) == 1 && checkedGood;
        }

        int certificateOf(int disk) {
            int number = 0;
            for (Event e : events) {
                if (e.kind == Kind.CERTIFY) {
                    for (int told : e.told) {
                        if (told == disk) {
                            return number;
                        }
                    }
                    number++;
                }
            }
            return -1;
        }

        boolean isSealedIn(int disk) {
            return crateOf(disk) != -1 && sealOf(crateOf(disk)) != -1;
        }

        int has(int keeper) {
            int count = 0;
            for (int disk = 0; disk < disks(); disk++) {
                count += keeperOf(disk) == keeper ? 1 : 0;
            }
            return count;
        }

        int missing() {
            int count = 0;
            for (int disk = 0; disk < disks(); disk++) {
                count += isMissing(disk) ? 1 : 0;
            }
            return count;
        }

        int oddCounts() {
            return (int) events.stream().filter(e -> e.kind == Kind.OPEN && e.told[0] != 0).count();
        }

        int tell(int call, int a, int b, int c) {
            return switch (call) {
                case 0 -> bring(a, b, c);
                case 1 -> offer(a, b);
                case 2 -> answer(a, b == 1);
                case 3 -> pack(a, b);
                case 4 -> unpack(a);
                case 5 -> seal(a);
                case 6 -> open(a, b);
                case 7 -> carry(a, b);
                case 8 -> wipe(a, b, c);
                case 9 -> smash(a, b);
                case 10 -> check(a, b, c == 1);
                case 11 -> lose(a);
                case 12 -> find(a);
                default -> certify(a);
            };
        }

        int bring(int kind, int secrecy, int keeper) {
            refuseIf(!isKeeper(keeper), INDEX);
            refuseIf(kind < 0 || kind > 2 || secrecy < 0 || secrecy > 3, ARGUMENT);
            refuseIf(disks() == 60, STATE);
            note(Kind.BRING, disks(), kind, secrecy, keeper);
            return disks() - 1;
        }

        int offer(int disk, int to) {
            refuseIf(!isDisk(disk) || !isKeeper(to), INDEX);
            refuseIf(keeperOf(disk) == to, ARGUMENT);
            refuseIf(isMissing(disk) || offeredTo(disk) != -1 || crateOf(disk) != -1, STATE);
            note(Kind.OFFER, disk, to);
            return keeperOf(disk);
        }

        int answer(int disk, boolean takes) {
            refuseIf(!isDisk(disk), INDEX);
            refuseIf(isMissing(disk) || offeredTo(disk) == -1, STATE);
            note(takes ? Kind.TAKE : Kind.REFUSE, disk, offeredTo(disk));
            return keeperOf(disk);
        }

        int pack(int disk, int crate) {
            refuseIf(!isDisk(disk) || !isCrate(crate), INDEX);
            refuseIf(isMissing(disk) || offeredTo(disk) != -1 || crateOf(disk) != -1, STATE);
            refuseIf(sealOf(crate) != -1 || crateKeeper(crate) != keeperOf(disk), STATE);
            note(Kind.PACK, disk, crate);
            return inCrate(crate);
        }

        int unpack(int disk) {
            refuseIf(!isDisk(disk), INDEX);
            refuseIf(isMissing(disk) || crateOf(disk) == -1 || isSealedIn(disk), STATE);
            int crate = crateOf(disk);
            note(Kind.UNPACK, disk);
            return crate;
        }

        int seal(int crate) {
            refuseIf(!isCrate(crate), INDEX);
            refuseIf(sealOf(crate) != -1 || countOf(Kind.SEAL) == 100, STATE);
            note(Kind.SEAL, crate, countOf(Kind.SEAL), inCrate(crate));
            return sealOf(crate);
        }

        int open(int crate, int counted) {
            refuseIf(!isCrate(crate), INDEX);
            refuseIf(counted < 0 || counted > 99, ARGUMENT);
            refuseIf(sealOf(crate) == -1, STATE);
            int above = counted - last(crate, Kind.SEAL).told[1];
            note(Kind.OPEN, crate, above);
            return above;
        }

        int carry(int crate, int to) {
            refuseIf(!isCrate(crate) || !isKeeper(to), INDEX);
            refuseIf(crateKeeper(crate) == to, ARGUMENT);
            refuseIf(sealOf(crate) == -1 && inCrate(crate) > 0, STATE);
            int before = crateKeeper(crate);
            note(Kind.CARRY, crate, to);
            return before;
        }

        void refuseIfOutOfReach(int disk) {
            refuseIf(isMissing(disk) || offeredTo(disk) != -1 || isSealedIn(disk), STATE);
        }

        int wipe(int disk, int way, int witness) {
            refuseIf(!isDisk(disk) || !isKeeper(witness), INDEX);
            refuseIf(way < 0 || way > 2 || keeperOf(disk) == witness, ARGUMENT);
            refuseIfOutOfReach(disk);
            refuseIf(stateOf(disk) == 1 || stateOf(disk) == 3, STATE);
            note(Kind.WIPE, disk, way, keeperOf(disk));
            return stateOf(disk);
        }

        int smash(int disk, int witness) {
            refuseIf(!isDisk(disk) || !isKeeper(witness), INDEX);
            refuseIf(keeperOf(disk) == witness, ARGUMENT);
            refuseIfOutOfReach(disk);
            refuseIf(stateOf(disk) == 3, STATE);
            int before = stateOf(disk);
            note(Kind.SMASH, disk);
            return before;
        }

        int check(int disk, int witness, boolean isGood) {
            refuseIf(!isDisk(disk) || !isKeeper(witness), INDEX);
            refuseIf(stateOf(disk) == 1 && last(disk, Kind.WIPE).told[1] == witness, ARGUMENT);
            refuseIfOutOfReach(disk);
            refuseIf(stateOf(disk) != 1, STATE);
            note(Kind.CHECK, disk, isGood ? 1 : 0);
            return stateOf(disk);
        }

        int lose(int disk) {
            refuseIf(!isDisk(disk), INDEX);
            refuseIf(isMissing(disk), STATE);
            note(Kind.LOSE, disk);
            return keeperOf(disk);
        }

        int find(int disk) {
            refuseIf(!isDisk(disk), INDEX);
            refuseIf(!isMissing(disk), STATE);
            note(Kind.FIND, disk);
            return crateOf(disk);
        }

        int certify(int keeper) {
            refuseIf(!isKeeper(keeper), INDEX);
            int[] on = new int[60];
            int count = 0;
            for (int disk = 0; disk < disks(); disk++) {
                if (keeperOf(disk) == keeper && isDone(disk) && !isMissing(disk) && certificateOf(disk) == -1) {
                    on[count++] = disk;
                }
            }
            refuseIf(count == 0, NO_ELEMENT);
            note(Kind.CERTIFY, keeper, Arrays.copyOf(on, count));
            return count;
        }

        /** In the order of Run.asks(). */
        List<Object> picture() {
            List<Object> seen = new ArrayList<>(List.of(disks(), missing(), oddCounts(), log().size(), countOf(Kind.CERTIFY)));
            for (int keeper = 0; keeper < 8; keeper++) {
                seen.add(has(keeper));
            }
            for (int crate = 0; crate < 10; crate++) {
                seen.add(crateKeeper(crate));
                seen.add(sealOf(crate));
            }
            for (int disk = 0; disk < disks(); disk++) {
                seen.addAll(List.of(keeperOf(disk), keeperByLog(disk), crateOf(disk), stateOf(disk),
                        isDone(disk), offeredTo(disk), certificateOf(disk)));
            }
            return seen;
        }
    }

    /** The same numbers in every run of the test. */
    private static final class Dice {
        private long state;

        Dice(int seed) {
            state = seed * 0x9E3779B97F4A7C15L + 1;
        }

        int below(int bound) {
            state = state * 6364136223846793005L + 1442695040888963407L;
            return (int) Math.floorMod(state >>> 33, (long) bound);
        }

        /** Mostly within the bound, now and then just outside it or far away. */
        int about(int bound) {
            int thrown = below(60);
            return thrown == 0 ? -1 : thrown == 1 ? bound : thrown == 2 ? Integer.MAX_VALUE
                    : thrown == 3 ? Integer.MIN_VALUE : below(Math.max(bound, 1));
        }
    }

    private static final String[] CALLS = {"bring", "offer", "answer", "pack", "unpack", "seal", "open", "carry", "wipe",
        "smash", "check", "lose", "find", "certify"};

    /** Calls by their place in CALLS; what ends a disk's story, breaking or losing it, comes seldom. */
    private static final int[] DRAWN = {
        0, 1, 1, 2, 2, 2, 3, 3, 3, 3, 4, 4, 4, 5, 6, 6, 7, 8, 8, 8, 9, 10, 10, 10, 10, 11, 12, 12, 12, 13};

    public static void main(String[] args) {
        Tester tester = new Tester();
        int[] answered = new int[CALLS.length];
        for (int run = 0; run < RUNS; run++) {
            compareRun(tester, run, answered);
        }
        for (int call = 0; call < CALLS.length; call++) {
            tester.due(CALLS[call] + " was answered often", answered[call] >= 500, true);
        }
        tester.end();
    }

    private static void compareRun(Tester tester, int number, int[] answered) {
        Dice dice = new Dice(number);
        Run run = new Run();
        Model model = new Model();
        // Few disks, keepers and crates in most runs, so that the calls meet one another.
        int disks = number % 8 == 0 ? 60 : 1 + dice.below(8);
        int keepers = number % 3 == 0 ? 8 : 2 + dice.below(3);
        int crates = number % 3 == 1 ? 10 : 1 + dice.below(3);
        for (int i = 0; i < TELLING_CALLS; i++) {
            int call = model.disks() < disks && dice.below(3) == 0 ? 0 : DRAWN[dice.below(DRAWN.length)];
            if (call == 0 && model.disks() >= disks && disks < 60) {
                continue;
            }
            int[] told = drawArguments(dice, call, model, keepers, crates);
            Call made = callOf(call, told[0], told[1], told[2]);
            String what = "run " + number + ", call " + i + ", " + made;
            Object due = dueOf(model, call, told);
            tester.due(what, run.answerOf(made), due);
            answered[call] += due instanceof Integer ? 1 : 0;
            if (dice.below(10) == 0 || i == TELLING_CALLS - 1) {
                tester.due(what + ", all that is asked afterwards", run.picture(), model.picture());
            }
        }
    }

    private static int[] drawArguments(Dice dice, int call, Model model, int keepers, int crates) {
        int disk = dice.about(model.disks());
        int crate = dice.about(crates);
        int keeper = dice.about(keepers);
        return switch (call) {
            case 0 -> new int[] {dice.about(3), dice.about(4), keeper};
            case 1, 9 -> new int[] {disk, keeper, 0};
            case 2 -> new int[] {disk, dice.below(2), 0};
            case 3 -> new int[] {disk, crate, 0};
            case 5 -> new int[] {crate, 0, 0};
            case 6 -> new int[] {crate, dice.below(2) == 0 ? dice.below(4) : dice.about(100), 0};
            case 7 -> new int[] {crate, keeper, 0};
            case 8 -> new int[] {disk, model.isDisk(disk) && dice.below(2) == 0 ? model.kindOf(disk) : dice.about(3), keeper};
            case 10 -> new int[] {disk, keeper, dice.below(2)};
            case 13 -> new int[] {keeper, 0, 0};
            default -> new int[] {disk, 0, 0};
        };
    }

    private static Object dueOf(Model model, int call, int[] told) {
        try {
            return model.tell(call, told[0], told[1], told[2]);
        } catch (Thrown e) {
            return e.due;
        }
    }

    private static Call callOf(int call, int a, int b, int c) {
        String name = CALLS[call];
        return switch (call) {
            case 0, 8 -> Call.of(name, a, b, c);
            case 1, 3, 6, 7, 9 -> Call.of(name, a, b);
            case 2 -> Call.of(name, a, b == 1);
            case 10 -> Call.of(name, a, b, c == 1);
            default -> Call.of(name, a);
        };
    }
}
