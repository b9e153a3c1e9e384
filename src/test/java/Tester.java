/** Counts due answers, and tells each one that is another. */
final class Tester {
    private int wrong;
    private int tested;

    void due(String what, Object got, Object want) {
        tested++;
        if (!want.equals(got)) {
            wrong++;
            System.out.println(what + " answered " + text(got) + ", due is " + text(want));
        }
    }

    /** An exception's class is written as the issues write it. */
    static String text(Object answer) {
        return answer instanceof Class<?> thrown ? "throws." + thrown.getSimpleName() : String.valueOf(answer);
    }

    void end() {
        System.out.println(tested + " answers tested, " + wrong + " wrong");
        if (wrong != 0 || tested == 0) {
            System.exit(1);
        }
    }
}
