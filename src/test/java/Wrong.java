/** Wrong arguments: those that are wrong by one, some more, and those at the ends of int. */
final class Wrong {
    static final int[] WORDS = numbers(2);

    private Wrong() { }

    /** What is not 0 to many - 1. */
    static int[] numbers(int many) {
        return new int[] {-1, many, -2, many + 1, -many - 1, many + 100,
            Integer.MIN_VALUE, Integer.MIN_VALUE + 1, Integer.MAX_VALUE - 1, Integer.MAX_VALUE};
    }

    /** What is no letter with as many ropes. */
    static int[] letters(int ropes) {
        return new int[] {0, ropes, -ropes, ropes + 1, -ropes - 1, ropes + 100,
            Integer.MIN_VALUE, Integer.MIN_VALUE + 1, Integer.MAX_VALUE - 1, Integer.MAX_VALUE};
    }
}
