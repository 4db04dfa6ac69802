import java.util.ArrayList;
import java.util.List;

/**
 * The power goes at every sector of some runs, and again at every sector of the recovery: what was
 * logged is there, what comes behind it is not, and no page is torn.
 */
public final class CrashTests {
    private static final int LOST = TwinWrites.LOST;
    private static final Due due = new Due();

    /** One run, with all changes that were ever given a number, by their numbers. */
    private static final class Run {
        final TwinWrites x = new TwinWrites();
        final List<int[]> changes = new ArrayList<>();
        int synced = 0;
        boolean lost = false;

        void change(int page, int from, int n, int word) {
            if (lost) {
                return;
            }
            int last = x.change(page, from, n, word, 1);
            lost = last == LOST;
            for (int i = 0; i < n && !lost; i++) {
                changes.add(new int[] {page, from + i, word + i});
            }
        }

        void read(int page) {
            lost = lost || x.read(page, 0) == LOST;
        }

        void sync() {
            lost = lost || x.sync() == LOST;
            if (!lost) {
                synced = changes.size();
            }
        }

        void checkpoint() {
            lost = lost || x.checkpoint() == LOST;
            if (!lost) {
                synced = changes.size();
            }
        }
    }

    private static void work(Run r, int kind) {
        switch (kind) {
            case 0:
                r.change(3, 0, 4, 10);
                r.change(5, 14, 2, 20);
                r.sync();
                r.change(3, 2, 3, 30);
                r.checkpoint();
                r.change(3, 0, 12, 40);
                r.change(0, 0, 12, 60);
                r.change(5, 0, 3, 80);
                r.checkpoint();
                break;
            case 1:
                for (int i = 0; i < 30; i++) {
                    r.change(i * 5 % 12, i % 16, 1, 100 + i);
                }
                r.sync();
                break;
            case 2:
                r.read(2);
                r.read(3);
                r.change(9, 0, 2, 50);
                r.change(1, 3, 2, 60);
                r.change(2, 6, 2, 70);
                r.change(3, 9, 2, 80);
                r.read(9);
                r.change(4, 12, 2, 90);
                r.sync();
                r.checkpoint();
                r.change(9, 0, 12, 200);
                r.sync();
                break;
            default:
                for (int i = 0; i < 12; i++) {
                    r.change(i % 5, 4 * (i % 4), 3, 300 + 10 * i);
                    r.read((i + 2) % 5);
                }
                r.checkpoint();
        }
    }

    private static int sectors(int kind) {
        Run r = new Run();
        work(r, kind);
        return r.x.count(2);
    }

    private static Run crashed(int kind, int at) {
        Run r = new Run();
        r.x.power(at);
        work(r, kind);
        if (!r.lost) {
            r.x.cut();
        }
        return r;
    }

    /** Recovers, losing the power at sector `at` of it first, if it writes so many. */
    private static boolean recoverTwice(Run r, int at) {
        r.x.power(at);
        int counts = r.x.recover();
        boolean again = counts == LOST;
        if (again) {
            due.is("down", () -> r.x.count(3), 1);
            counts = r.x.recover();
        }
        r.x.power(TwinWrites.NONE);
        int there = counts;
        due.is("recovered " + there + " of " + r.changes.size() + ", synced " + r.synced,
                () -> there >= r.synced && there <= r.changes.size() ? 1 : 0, 1);
        due.is("last number", () -> r.x.count(0), there);
        return again;
    }

    /** Some 460 calls, so that no object here comes to the end of its 512. */
    private static void look(Run r, String where) {
        int[][] words = new int[12][16];
        for (int[] c : r.changes.subList(0, r.x.count(0))) {
            words[c[0]][c[1]] = c[2];
        }
        for (int page = 0; page < 12; page++) {
            int p = page;
            for (int s = 17; s < 20; s++) {
                int sector = s;
                due.is(where + " torn " + p, () -> r.x.disk(0, p, sector), r.x.disk(0, p, 16));
            }
            for (int i = 0; i < 16; i++) {
                int at = i;
                due.is(where + " page " + p + " word " + i, () -> r.x.read(p, at) == 1 ? r.x.got() : LOST, words[p][i]);
            }
        }
    }

    public static void main(String[] args) {
        int mendings = 0;
        for (int kind = 0; kind < 4; kind++) {
            int sectors = sectors(kind);
            for (int at = 0; at <= sectors; at++) {
                boolean again = true;
                for (int second = 0; again && second < 100; second++) {
                    Run r = crashed(kind, at);
                    again = recoverTwice(r, second);
                    mendings += r.x.count(5);
                    look(r, "work " + kind + ", power " + at + ", then " + second + ":");
                }
            }
        }
        int mended = mendings;
        due.is("pages were torn and mended", () -> mended > 100 ? 1 : 0, 1);
        due.end("CrashTests");
    }
}
