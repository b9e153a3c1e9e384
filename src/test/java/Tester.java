import java.util.ArrayList;
import java.util.List;

/** What the tests share: due answers, due exceptions, and a picture of all that can be asked. */
final class Tester {
    static final Class<? extends RuntimeException> INDEX = IndexOutOfBoundsException.class;
    static final Class<? extends RuntimeException> ARGUMENT = IllegalArgumentException.class;
    static final Class<? extends RuntimeException> STATE = IllegalStateException.class;
    static final Class<? extends RuntimeException> NO_ELEMENT = java.util.NoSuchElementException.class;

    static final int[] OUTSIDE_KEEPERS = {-1, 8, 9, 100, Integer.MIN_VALUE, Integer.MAX_VALUE};
    static final int[] OUTSIDE_CRATES = {-1, 10, 11, 100, Integer.MIN_VALUE, Integer.MAX_VALUE};

    interface Call {
        Object run();
    }

    private int wrong;
    private int tested;

    void due(String what, Object got, Object want) {
        tested++;
        if (!want.equals(got)) {
            wrong++;
            System.out.println(what + " answered " + got + ", due is " + want);
        }
    }

    /** The call throws exactly that class, and nothing that can be asked is another than before. */
    void dueThrow(String what, Shredroll roll, Class<? extends RuntimeException> want, Call call) {
        List<Integer> before = picture(roll);
        Object got;
        try {
            got = call.run();
        } catch (RuntimeException e) {
            got = e.getClass();
        }
        due(what, got, want);
        due(what + ", all that is asked afterwards", picture(roll), before);
    }

    /** No disk of these numbers exists when 'brought' disks were brought. */
    static int[] outsideDisks(int brought) {
        return new int[] {-1, brought, brought + 1, 60, 61, Integer.MIN_VALUE, Integer.MAX_VALUE};
    }

    static List<Integer> picture(Shredroll roll) {
        List<Integer> seen = new ArrayList<>();
        seen.add(roll.disks());
        seen.add(roll.missing());
        seen.add(roll.oddCounts());
        seen.add(roll.logged());
        seen.add(roll.certificates());
        for (int keeper = 0; keeper < 8; keeper++) {
            seen.add(roll.has(keeper));
        }
        for (int crate = 0; crate < 10; crate++) {
            seen.add(roll.crateKeeper(crate));
            seen.add(roll.sealOf(crate));
        }
        for (int disk = 0; disk < roll.disks(); disk++) {
            seen.add(roll.keeperOf(disk));
            seen.add(roll.keeperByLog(disk));
            seen.add(roll.crateOf(disk));
            seen.add(roll.stateOf(disk));
            seen.add(roll.isDone(disk) ? 1 : 0);
            seen.add(roll.offeredTo(disk));
            seen.add(roll.certificateOf(disk));
        }
        return seen;
    }

    void end() {
        System.out.println(tested + " answers tested, " + wrong + " wrong");
        if (wrong != 0 || tested == 0) {
            System.exit(1);
        }
    }
}
