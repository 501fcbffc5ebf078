/** What the tests share: comparing an answer with the one that is due, and ending with exit code 1. */
final class Check {
    /** Numbers that nothing bears, beside those that lie next to a limit. */
    private static final int[] FAR = {-2, -8, 64, 1 << 16, 1 << 30, Integer.MIN_VALUE, Integer.MIN_VALUE + 1,
        Integer.MAX_VALUE};

    private static int wrong = 0;
    private static int asked = 0;

    private Check() {
    }

    static void due(String call, long want, long got) {
        asked++;
        if (got != want) {
            wrong++;
            System.out.println(call + " answered " + got + ", due is " + want);
        }
    }

    static void due(String call, boolean want, boolean got) {
        due(call, want ? 1 : 0, got ? 1 : 0);
    }

    /** The numbers next to 0 .. count - 1 on both sides, and some that lie far off. */
    static int[] outside(int count) {
        return outside(0, count - 1);
    }

    /** The numbers next to first .. last on both sides, and some that lie far off. */
    static int[] outside(int first, int last) {
        int[] numbers = new int[FAR.length + 2];
        numbers[0] = first - 1;
        numbers[1] = last + 1;
        System.arraycopy(FAR, 0, numbers, 2, FAR.length);
        return numbers;
    }

    static void end() {
        System.out.println(asked + " answers, " + wrong + " of them wrong");
        if (wrong != 0 || asked == 0) {
            System.exit(1);
        }
    }
}
