import java.util.HashMap;
import java.util.Map;

/**
 * The sum of the document, and a search for other bytes with the same one. A
 * disk can't be asked for a sum, but a sector that is turned to such bytes is
 * right by the document's sum and, but for one chance in some 4,000,000,000,
 * wrong by any other.
 */
final class SameSum {
    private static final int FACTOR = 0x9E3779B1;
    private static final int TURNED_BYTES = 5;

    private SameSum() {
    }

    /** Masks for the bytes from FROM on, of a sector that lies on track PLACE. */
    static int[] masks(int place, int sector, int[] bytes, int from) {
        int before = 64 * place + sector;
        for (int i = 0; i < from; i++) {
            before = step(before, bytes[i]);
        }
        int after = before;
        for (int i = from; i < from + TURNED_BYTES; i++) {
            after = step(after, bytes[i]);
        }
        int[] found = search(before, lastTwo(after), bytes[from]);
        for (int k = 0; k < TURNED_BYTES; k++) {
            found[k] ^= bytes[from + k];
        }
        return found;
    }

    static int[] run(int first) {
        int[] made = new int[16];
        for (int i = 0; i < 16; i++) {
            made[i] = (first + i) & 255;
        }
        return made;
    }

    private static int step(int s, int b) {
        return Integer.rotateLeft(s ^ b, 3) * FACTOR;
    }

    /** The sums from which two bytes more lead to AFTER, with these two bytes. */
    private static Map<Integer, Integer> lastTwo(int after) {
        int inverse = inverseOfFactor();
        Map<Integer, Integer> made = new HashMap<>();
        int s = Integer.rotateRight(after * inverse, 3);
        for (int last = 0; last < 256; last++) {
            int t = Integer.rotateRight((s ^ last) * inverse, 3);
            for (int first = 0; first < 256; first++) {
                made.put(t ^ first, first * 256 + last);
            }
        }
        return made;
    }

    private static int inverseOfFactor() {
        int inverse = FACTOR;
        for (int k = 0; k < 5; k++) {
            inverse *= 2 - FACTOR * inverse;
        }
        return inverse;
    }

    /** The first byte becomes another one, so that what is found is never what was there. */
    private static int[] search(int before, Map<Integer, Integer> lastTwo, int firstWas) {
        for (int k = 0; k < 1 << 24; k++) {
            int a = k >> 16;
            int b = k >> 8 & 255;
            int c = k & 255;
            Integer two = a == firstWas ? null : lastTwo.get(step(step(step(before, a), b), c));
            if (two != null) {
                return new int[] {a, b, c, two >> 8, two & 255};
            }
        }
        throw new IllegalStateException("no other bytes with this sum");
    }
}
