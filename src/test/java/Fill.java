/** Puts whole rows of bytes into versions, by way of the tape. */
final class Fill {
    private Fill() {
    }

    static void version(PatchBench bench, int v, int... bytes) {
        for (int at = 0; at < bytes.length; at += 20) {
            bench.feed(four(bytes, at), four(bytes, at + 4), four(bytes, at + 8), four(bytes, at + 12),
                four(bytes, at + 16));
        }
        Due.same("version(" + v + ", " + bytes.length + ")", bench.version(v, bytes.length), bytes.length);
    }

    /** Bytes from, from + 1, .. */
    static int[] rising(int from, int many) {
        int[] bytes = new int[many];
        for (int i = 0; i < many; i++) {
            bytes[i] = (from + i) & 255;
        }
        return bytes;
    }

    /** Bytes without a pattern that a patch could use, the same for the same seed. */
    static int[] scattered(int seed, int many) {
        int[] bytes = new int[many];
        int state = seed;
        for (int i = 0; i < many; i++) {
            state = state * 1103515245 + 12345;
            bytes[i] = (state >>> 16) & 255;
        }
        return bytes;
    }

    static int[] joined(int[]... parts) {
        int many = 0;
        for (int[] part : parts) {
            many += part.length;
        }
        int[] all = new int[many];
        int at = 0;
        for (int[] part : parts) {
            System.arraycopy(part, 0, all, at, part.length);
            at += part.length;
        }
        return all;
    }

    static int[] part(int[] bytes, int from, int many) {
        return java.util.Arrays.copyOfRange(bytes, from, from + many);
    }

    static int[] shifted(int[] bytes, int by) {
        int[] all = new int[bytes.length];
        for (int i = 0; i < bytes.length; i++) {
            all[i] = (bytes[i] + by) & 255;
        }
        return all;
    }

    private static int four(int[] bytes, int at) {
        int number = 0;
        for (int i = at; i < at + 4; i++) {
            number = number << 8 | (i < bytes.length ? bytes[i] : 0);
        }
        return number;
    }
}
