/** The values just outside a range, and the ones as far outside as can be. */
final class Bounds {
    private Bounds() { }

    static int[] outside(int least, int greatest) {
        return new int[] {least - 1, greatest + 1, Integer.MIN_VALUE, Integer.MAX_VALUE};
    }
}
