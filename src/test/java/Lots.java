/** Draws, worked out apart from the class, and values of z by which they give what a test needs. */
final class Lots {
    private long z;

    Lots(int z) {
        this.z = z & 0xffffffffL;
    }

    int draw() {
        z = (z * 1103515245L + 12345L) % (1L << 32);
        return (int) (z / 256);
    }

    int z() {
        return (int) z;
    }

    static int behind(int z, int draws) {
        Lots lots = new Lots(z);
        for (int i = 0; i < draws; i++) {
            lots.draw();
        }
        return lots.z();
    }

    /** The least z from which on the draws have these rests by these divisors; a divisor of 1 takes any. */
    static int seed(int[] divisors, int... rests) {
        for (int z = 0; z < 10_000_000; z++) {
            Lots lots = new Lots(z);
            int right = 0;
            while (right < rests.length && lots.draw() % divisors[right] == rests[right]) {
                right++;
            }
            if (right == rests.length) {
                return z;
            }
        }
        throw new IllegalStateException("no such z");
    }
}
