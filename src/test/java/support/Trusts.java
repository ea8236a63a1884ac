/** Objects that tests begin with. */
final class Trusts {
    static final int SMALL_N = 1081;
    static final int SMALL_M = 253;
    static final int LARGEST_P = 32507;
    static final int LARGEST_Q = 32603;
    static final int LARGEST_N = LARGEST_P * LARGEST_Q;
    static final int LARGEST_M = (LARGEST_P / 2) * (LARGEST_Q / 2);

    private Trusts() {
    }

    static SealTrust dealt(int p, int q, int a, int b, int base) {
        SealTrust trust = new SealTrust();
        trust.deal(p, q, a, b, base);
        return trust;
    }

    /** The two least primes that can be dealt. */
    static SealTrust small() {
        return dealt(23, 47, 5, 7, 3);
    }

    static SealTrust large() {
        return dealt(10007, 20123, 123456, 654321, 777);
    }

    /** A key and one open motion without voices. */
    static SealTrust moved() {
        SealTrust trust = small();
        move(trust, 0x54686973, 4);
        return trust;
    }

    /** Twelve motions, all of them open, and a byte in the buffer. */
    static SealTrust full() {
        SealTrust trust = large();
        for (int i = 0; i < 12; i++) {
            move(trust, i, 1);
        }
        trust.put(12, 1);
        return trust;
    }

    /**
     * Some of all there is: motion 0 is open (partials of 0, 1 and 3, the last one bad; 2 objected), 1 is sealed, 2 is
     * closed, 3 is open with a block that is not prime to N; seat 5 is suspended, three bytes are in the buffer.
     */
    static SealTrust busy() {
        SealTrust trust = small();
        trust.refresh(9, 4);
        move(trust, 0x54686973, 4);
        consents(trust, 0, 0, 1);
        trust.object(0, 2);
        trust.file(0, 3, 99, 98, 97);
        move(trust, 1, 1);
        consents(trust, 1, 0, 1, 2);
        trust.join(1);
        move(trust, 2, 1);
        consents(trust, 2, 0);
        for (int trustee = 3; trustee < 6; trustee++) {
            trust.object(2, trustee);
        }
        move(trust, byteWithBlock(false), 1);
        consents(trust, 3, 0, 1, 2);
        trust.suspend(5, true);
        trust.put(0x616263, 3);
        return trust;
    }

    static int move(SealTrust trust, int word, int n) {
        trust.put(word, n);
        return trust.motion();
    }

    static void consents(SealTrust trust, int motion, int... trustees) {
        for (int trustee : trustees) {
            trust.consent(motion, trustee);
        }
    }

    /** A byte whose document's block is, or is not, prime to 23 * 47. */
    static int byteWithBlock(boolean prime) {
        for (int word = 0; word < 256; word++) {
            long block = Model.blockOf(SMALL_N, word);
            if ((block % 23 != 0 && block % 47 != 0) == prime) {
                return word;
            }
        }
        throw new IllegalStateException("no such byte");
    }

    /** A document of two bytes with such a block by 23 * 47. */
    static int wordWithBlock(long block) {
        for (int word = 0; word < 65536; word++) {
            if (Model.blockOf(SMALL_N, word >> 8, word & 255) == block) {
                return word;
            }
        }
        throw new IllegalStateException("no such word");
    }
}
