import java.nio.charset.StandardCharsets;

/** What the project's tests share: counting wrong answers, and laying bytes on an object's tape. */
final class Check {
    private static int wrong = 0;
    private static int looked = 0;

    private Check() {
    }

    static void due(String call, long got, long want) {
        looked++;
        if (got != want) {
            wrong++;
            if (wrong <= 50) {
                System.out.println(call + " answered " + got + ", due is " + want);
            }
        }
    }

    static void due(String call, boolean got, boolean want) {
        due(call, got ? 1L : 0L, want ? 1L : 0L);
    }

    static int wrongs() {
        return wrong;
    }

    /** Ends the test: with exit code 1 if an answer was wrong. */
    static void close() {
        System.out.println(wrong == 0 ? looked + " answers are as due" : wrong + " of " + looked + " answers are not as due");
        if (wrong != 0) {
            System.exit(1);
        }
    }

    /** Lays bytes on the tape, in place of what is there. */
    static void lay(CloneVolumes x, byte[] bytes) {
        x.end(0);
        int[] five = new int[5];
        for (int i = 0; i < bytes.length; i += 20) {
            for (int j = 0; j < 5; j++) {
                five[j] = 0;
                for (int k = 0; k < 4; k++) {
                    int at = i + 4 * j + k;
                    five[j] = five[j] << 8 | (at < bytes.length ? bytes[at] & 255 : 32);
                }
            }
            x.feed(five[0], five[1], five[2], five[3], five[4]);
        }
        x.end(bytes.length);
    }

    static void lay(CloneVolumes x, String text) {
        lay(x, text.getBytes(StandardCharsets.ISO_8859_1));
    }

    static int store(CloneVolumes x, String text) {
        lay(x, text);
        return x.store();
    }

    static long ask(CloneVolumes x, String text) {
        lay(x, text);
        return x.ask();
    }

    /** Pairs of KEY and VALUE as rows of what is SEEN. */
    static int see(CloneVolumes x, int... pairs) {
        byte[] bytes = new byte[pairs.length * 2];
        for (int i = 0; i < pairs.length; i++) {
            bytes[2 * i] = (byte) (pairs[i] >> 8);
            bytes[2 * i + 1] = (byte) pairs[i];
        }
        lay(x, bytes);
        return x.see();
    }

    static byte[] image(CloneVolumes x) {
        byte[] bytes = new byte[x.image()];
        for (int i = 0; i < bytes.length; i++) {
            bytes[i] = (byte) x.octet(i);
        }
        return bytes;
    }

    /** Sets the last byte of an image so that it is the one due. */
    static byte[] sealed(byte[] bytes) {
        int c = 157;
        for (int i = 0; i + 1 < bytes.length; i++) {
            c = (3 * c + (bytes[i] & 255)) % 251;
        }
        byte[] done = bytes.clone();
        done[done.length - 1] = (byte) c;
        return done;
    }

    static boolean on(CloneVolumes x, byte[] bytes) {
        lay(x, bytes);
        return x.on();
    }
}
