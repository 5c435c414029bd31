/** The greatest flow, one by one along paths that are looked for: slow and plain. */
final class Flow {
    private Flow() {
    }

    static int greatest(int[] from, int[] to, boolean[][] way) {
        int[] f = from.clone();
        int[] t = to.clone();
        int[][] sent = new int[from.length][to.length];
        int flow = 0;
        for (int i = 0; i < f.length; i++) {
            while (f[i] > 0 && push(i, t, way, sent, new boolean[to.length])) {
                f[i]--;
                flow++;
            }
        }
        return flow;
    }

    private static boolean push(int i, int[] t, boolean[][] way, int[][] sent, boolean[] seen) {
        for (int j = 0; j < t.length; j++) {
            if (!way[i][j] || seen[j]) {
                continue;
            }
            seen[j] = true;
            if (t[j] > 0) {
                t[j]--;
                sent[i][j]++;
                return true;
            }
            for (int o = 0; o < sent.length; o++) {
                if (sent[o][j] > 0 && push(o, t, way, sent, seen)) {
                    sent[o][j]--;
                    sent[i][j]++;
                    return true;
                }
            }
        }
        return false;
    }
}
