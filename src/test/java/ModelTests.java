import java.util.ArrayList;
import java.util.List;
import java.util.Random;
import java.util.function.IntSupplier;

/** Long runs of drawn calls beside a second program that was written apart, all that is seen compared. */
public final class ModelTests {
    private static final int NONE = TwinWrites.NONE;
    private static final int LOST = TwinWrites.LOST;
    /** Home, beside, the log, the mark, frames, counts, got(). */
    private static final int ALL_LOOKS = 12 * 20 + 4 * 24 + 12 * 4 + 1 + 4 * 19 + 7 + 1;
    private static final Due due = new Due();

    private static final class PowerGone extends RuntimeException {
        private static final long serialVersionUID = 1L;
    }

    private static final class Held {
        int page = NONE;
        int stamp = 0;
        boolean dirty = false;
        int[] words = new int[16];
    }

    /** The document once more: sectors are arrays that are replaced whole, and the power is an exception. */
    private static final class Model {
        /** Of a page's sector: 4 words, the stamp, the page. */
        int[][][] home = new int[12][4][6];
        int[][][] beside = new int[4][4][6];
        int[][] log = new int[12][4];
        int mark = 1;
        int power = NONE;
        boolean down = false;
        int written = 0;
        int cleaned = 0;
        int mended = 0;
        int got = 0;
        int next = 1;
        Held[] frames = {new Held(), new Held(), new Held(), new Held()};
        /** Frames by when they were asked for, the longest ago first. */
        List<Integer> asked = new ArrayList<>(List.of(0, 1, 2, 3));
        List<int[]> waiting = new ArrayList<>();

        void gone() {
            frames = new Held[] {new Held(), new Held(), new Held(), new Held()};
            asked = new ArrayList<>(List.of(0, 1, 2, 3));
            waiting.clear();
            power = NONE;
            down = true;
        }

        void tick() {
            if (power == 0) {
                throw new PowerGone();
            }
            power = power == NONE ? NONE : power - 1;
            written++;
        }

        int lostIfGone(IntSupplier call) {
            try {
                return call.getAsInt();
            } catch (PowerGone e) {
                gone();
                return LOST;
            }
        }

        void needUp() {
            if (down) {
                throw new IllegalStateException();
            }
        }

        static void need(boolean there) {
            if (!there) {
                throw new IndexOutOfBoundsException();
            }
        }

        void put(int[][] place, int page, int stamp, int[] words) {
            for (int s = 0; s < 4; s++) {
                tick();
                place[s] = new int[] {words[4 * s], words[4 * s + 1], words[4 * s + 2], words[4 * s + 3], stamp, page};
            }
        }

        int toSync() {
            int n = waiting.size();
            for (int[] record : waiting) {
                tick();
                log[record[0] % 12] = record.clone();
            }
            waiting.clear();
            return n;
        }

        int toClean(List<Held> some) {
            toSync();
            int slot = 0;
            for (Held h : some) {
                put(beside[slot++], h.page, h.stamp, h.words);
            }
            for (Held h : some) {
                put(home[h.page], h.page, h.stamp, h.words);
            }
            for (Held h : some) {
                h.dirty = false;
            }
            cleaned += some.size();
            return some.size();
        }

        int toCheckpoint() {
            List<Held> all = new ArrayList<>();
            for (Held h : frames) {
                if (h.dirty) {
                    all.add(h);
                }
            }
            int n = toClean(all);
            tick();
            mark = next;
            return n;
        }

        Held bring(int page) {
            int k = -1;
            for (int j = 3; j >= 0; j--) {
                k = frames[j].page == page ? j : k;
            }
            if (k < 0) {
                for (int j = 3; j >= 0; j--) {
                    k = frames[j].page == NONE ? j : k;
                }
                k = k < 0 ? asked.get(0) : k;
                if (frames[k].dirty) {
                    toClean(List.of(frames[k]));
                }
                Held h = new Held();
                h.page = page;
                h.stamp = home[page][3][4];
                for (int i = 0; i < 16; i++) {
                    h.words[i] = home[page][i / 4][i % 4];
                }
                frames[k] = h;
            }
            asked.remove(Integer.valueOf(k));
            asked.add(k);
            return frames[k];
        }

        int change(int page, int from, int n, int word, int step) {
            need(page >= 0 && page < 12 && from >= 0 && from < 16 && n >= 1 && (long) from + n <= 16);
            needUp();
            return lostIfGone(() -> {
                if (next + n > mark + 12) {
                    toCheckpoint();
                }
                if (next + n > mark + 12) {
                    return TwinWrites.FULL;
                }
                for (int i = 0; i < n; i++) {
                    Held h = bring(page);
                    h.words[from + i] = word + i * step;
                    h.stamp = next;
                    h.dirty = true;
                    waiting.add(new int[] {next, page, from + i, word + i * step});
                    next++;
                }
                return next - 1;
            });
        }

        int read(int page, int i) {
            need(page >= 0 && page < 12 && i >= 0 && i < 16);
            needUp();
            got = 0;
            return lostIfGone(() -> {
                got = bring(page).words[i];
                return 1;
            });
        }

        int sync() {
            needUp();
            return lostIfGone(this::toSync);
        }

        int checkpoint() {
            needUp();
            return lostIfGone(this::toCheckpoint);
        }

        int power(int n) {
            need(n >= -1 && n <= 10000);
            power = n;
            return 0;
        }

        int cut() {
            needUp();
            int n = waiting.size();
            gone();
            return n;
        }

        boolean whole(int[][] place) {
            boolean same = true;
            for (int[] sector : place) {
                same &= sector[4] == place[0][4] && sector[5] == place[0][5];
            }
            return same;
        }

        int recover() {
            if (!down) {
                throw new IllegalStateException();
            }
            return lostIfGone(() -> {
                for (int page = 0; page < 12; page++) {
                    mend(page);
                }
                int n = mark;
                while (log[n % 12][0] == n) {
                    int[] record = log[n % 12];
                    Held h = bring(record[1]);
                    if (h.stamp < n) {
                        h.words[record[2]] = record[3];
                        h.stamp = n;
                        h.dirty = true;
                    }
                    n++;
                }
                next = n;
                down = false;
                return n - 1;
            });
        }

        void mend(int page) {
            if (whole(home[page])) {
                return;
            }
            int[][] best = null;
            for (int[][] slot : beside) {
                if (whole(slot) && slot[0][5] == page && (best == null || slot[0][4] > best[0][4])) {
                    best = slot;
                }
            }
            if (best == null) {
                throw new AssertionError("a torn home with nothing beside");
            }
            for (int s = 0; s < 4; s++) {
                tick();
                home[page][s] = best[s].clone();
            }
            mended++;
        }

        int disk(int where, int k, int i) {
            need(where >= 0 && where < 4);
            if (where < 2) {
                int[][][] places = where == 0 ? home : beside;
                need(k >= 0 && k < places.length && i >= 0 && i < (where == 0 ? 20 : 24));
                return i < 16 ? places[k][i / 4][i % 4] : places[k][i % 4][i / 4];
            }
            need(where == 2 ? k >= 0 && k < 12 && i >= 0 && i < 4 : k == 0 && i == 0);
            return where == 2 ? log[k][i] : mark;
        }

        int frame(int k, int what) {
            need(k >= 0 && k < 4 && what >= 0 && what < 19);
            Held h = frames[k];
            return what == 0 ? h.page : what == 1 ? h.stamp : what == 2 ? (h.dirty ? 1 : 0) : h.words[what - 3];
        }

        int count(int what) {
            need(what >= 0 && what < 7);
            int[] all = {down ? 0 : next - 1, waiting.size(), written, down ? 1 : 0, cleaned, mended, down ? 0 : mark + 12 - next};
            return all[what];
        }
    }

    private static void both(String what, IntSupplier program, IntSupplier model) {
        due.is(what, program, Due.answer(model));
    }

    private static void seen(String run, TwinWrites x, Model m) {
        both(run + " got", x::got, () -> m.got);
        int[][] sizes = {{12, 20}, {4, 24}, {12, 4}, {1, 1}};
        for (int where = 0; where < sizes.length; where++) {
            for (int k = 0; k < sizes[where][0]; k++) {
                for (int i = 0; i < sizes[where][1]; i++) {
                    int w = where;
                    int a = k;
                    int b = i;
                    both(run + " disk " + w + " " + a + " " + b, () -> x.disk(w, a, b), () -> m.disk(w, a, b));
                }
            }
        }
        for (int k = 0; k < 4; k++) {
            for (int what = 0; what < 19; what++) {
                int a = k;
                int b = what;
                both(run + " frame " + a + " " + b, () -> x.frame(a, b), () -> m.frame(a, b));
            }
        }
        for (int what = 0; what < 7; what++) {
            int a = what;
            both(run + " count " + a, () -> x.count(a), () -> m.count(a));
        }
    }

    /** Mostly what is there, at times what is not. */
    private static int draw(Random r, int length) {
        return r.nextInt(60) == 0 ? r.nextInt(length + 6) - 3 : r.nextInt(length);
    }

    private static void step(String run, Random r, int pages, int sort, TwinWrites x, Model m) {
        int page = draw(r, pages);
        int i = draw(r, 16);
        int n = r.nextInt(8) == 0 ? draw(r, 18) : 1 + r.nextInt(3);
        int word = r.nextInt(9) == 0 ? r.nextInt() : r.nextInt(1000);
        int step = r.nextInt(9) == 0 ? r.nextInt() : r.nextInt(5);
        int draw = r.nextInt(100);
        int power = r.nextInt(9) == 0 ? r.nextInt(10004) - 3 : r.nextInt(r.nextBoolean() ? 12 : 40);
        if (m.down && draw < 70) {
            both(run + " recover", x::recover, m::recover);
        } else if (draw < 50) {
            both(run + " change", () -> x.change(page, i, n, word, step), () -> m.change(page, i, n, word, step));
        } else if (draw < 75) {
            both(run + " read", () -> x.read(page, i), () -> m.read(page, i));
        } else if (draw < 80) {
            both(run + " sync", x::sync, m::sync);
        } else if (draw < 85 + sort) {
            both(run + " checkpoint", x::checkpoint, m::checkpoint);
        } else if (draw < 97) {
            both(run + " power", () -> {
                x.power(power);
                return 0;
            }, () -> m.power(power));
        } else if (draw < 99) {
            both(run + " cut", x::cut, m::cut);
        } else {
            both(run + " recover", x::recover, m::recover);
        }
    }

    private static void look(String run, Random r, TwinWrites x, Model m) {
        int sort = r.nextInt(8);
        int what = draw(r, 7);
        int k = draw(r, sort == 1 || sort == 4 ? 4 : sort == 3 ? 1 : 12);
        int i = draw(r, new int[] {20, 24, 4, 1, 19, 1, 1, 1}[sort]);
        if (sort < 4) {
            both(run + " disk " + sort + " " + k + " " + i, () -> x.disk(sort, k, i), () -> m.disk(sort, k, i));
        } else if (sort == 4) {
            both(run + " frame " + k + " " + i, () -> x.frame(k, i), () -> m.frame(k, i));
        } else if (sort == 5) {
            both(run + " got", x::got, () -> m.got);
        } else {
            both(run + " count " + what, () -> x.count(what), () -> m.count(what));
        }
    }

    /** Some calls, then all that can be seen: 512 calls together, as nothing is promised behind them. */
    private static int shortRun(String run, Random r, int sort) {
        TwinWrites x = new TwinWrites();
        Model m = new Model();
        for (int call = 0; call < 512 - ALL_LOOKS; call++) {
            step(run + " call " + call, r, 5 + sort % 8, sort % 11, x, m);
        }
        seen(run, x, m);
        return m.mended;
    }

    private static int longRun(String run, Random r, int sort) {
        TwinWrites x = new TwinWrites();
        Model m = new Model();
        for (int call = 0; call < 512; call++) {
            if (r.nextInt(3) == 0) {
                step(run + " call " + call, r, 5 + sort % 8, sort % 11, x, m);
            } else {
                look(run + " call " + call, r, x, m);
            }
        }
        return m.mended;
    }

    public static void main(String[] args) {
        Random r = new Random(20261115);
        int mended = 0;
        for (int run = 0; run < 8000; run++) {
            mended += shortRun("short run " + run, r, run);
            mended += longRun("long run " + run, r, run);
        }
        int all = mended;
        due.is("homes were mended in these runs", () -> all > 1000 ? 1 : all, 1);
        due.end("ModelTests");
    }
}
