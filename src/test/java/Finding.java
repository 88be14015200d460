/** The answers that are FINDINGS. */
final class Finding {
    static final int NULL = -1000011, PLACE = -1000012, KIND = -1000013, SIZE = -1000014, STORE = -1000015;

    private Finding() {
    }
}
