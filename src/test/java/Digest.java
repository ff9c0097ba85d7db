/** The checksum as the document tells it, from what the other calls of an object answer. */
final class Digest {
    private long sum = 383;

    private Digest() {
    }

    static long of(LexerForge forge) {
        Digest digest = new Digest();
        for (int what = 0; what < 3; what++) {
            digest.mix(forge.count(what));
        }
        for (int rule = 0; rule < forge.count(0); rule++) {
            for (int what = 0; what < 6; what++) {
                digest.mix(forge.rule(rule, what));
            }
        }
        for (int mode = 0; mode < 4; mode++) {
            digest.mixMachine(forge, mode);
        }
        for (int token = 0; token < forge.count(2); token++) {
            for (int what = 0; what < 4; what++) {
                digest.mix(forge.token(token, what));
            }
        }
        for (int what = 0; what < 4; what++) {
            digest.mix(forge.scanned(what));
        }
        return digest.sum;
    }

    private void mix(int number) {
        sum = sum * 31 + number;
    }

    private void mixMachine(LexerForge forge, int mode) {
        mix(forge.states(mode));
        for (int state = 0; state < forge.states(mode); state++) {
            mix(forge.answer(mode, state));
            for (int letter = 0; letter < 8; letter++) {
                mix(forge.next(mode, state, letter));
            }
        }
    }
}
