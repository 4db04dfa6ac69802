/** Each promise of the document: ordinary calls, the edges that it names, and wrong inputs. */
public final class PromiseTests extends Calls {
    public static void main(String[] args) {
        newObject();
        change();
        changeWithoutRoom();
        changeLost();
        changeWrong();
        read();
        got();
        framesAreFilled();
        sync();
        syncLost();
        checkpoint();
        checkpointLost();
        power();
        recoverFromTheLog();
        recoverMends();
        recoverMendsFromTheGreatestStamp();
        recoverUpToDate();
        recoverCleans();
        recoverMendsPastItsOwnCleaning();
        recoverLost();
        cut();
        disk();
        diskWrong();
        frame();
        count();
        due.end("PromiseTests");
    }

    private static void newObject() {
        TwinWrites x = new TwinWrites();
        diskIsAllZero(x);
        is(x, "disk 3 0 0", 1);
        for (int k = 0; k < 4; k++) {
            is(x, "frame " + k + " 0", NONE);
            for (int what = 1; what < 19; what++) {
                is(x, "frame " + k + " " + what, 0);
            }
        }
        counts(x, 0, 0, 0, 0, 0, 0, 12);
        is(x, "got", 0);
        // The power stays: far more sectors are written than any that was named.
        for (int i = 1; i <= 12; i++) {
            is(x, "change 0 0 1 5 0", i);
            is(x, "checkpoint", 1);
        }
        is(x, "count 2", 120);
    }

    private static void diskIsAllZero(TwinWrites x) {
        for (int k = 0; k < 12; k++) {
            for (int i = 0; i < 20; i++) {
                is(x, "disk 0 " + k + " " + i, 0);
            }
            for (int i = 0; i < 4; i++) {
                is(x, "disk 2 " + k + " " + i, 0);
            }
        }
        for (int k = 0; k < 4; k++) {
            for (int i = 0; i < 24; i++) {
                is(x, "disk 1 " + k + " " + i, 0);
            }
        }
    }

    private static void change() {
        TwinWrites x = new TwinWrites();
        is(x, "change 7 3 4 10 -4", 4);
        is(x, "frame 0 0", 7);
        is(x, "frame 0 1", 4);
        is(x, "frame 0 2", 1);
        words(x, 0, 0, 0, 0, 10, 6, 2, -2, 0);
        // One alone and the last word; words wrap around as ints do.
        is(x, "change 7 15 1 9 100", 5);
        is(x, "frame 0 18", 9);
        is(x, "change 7 0 2 " + MOST + " 1", 7);
        is(x, "frame 0 3", MOST);
        is(x, "frame 0 4", LEAST);
        is(x, "frame 0 1", 7);
        counts(x, 7, 7, 0, 0, 0, 0, 5);
        // Nothing has come to the disk, as nothing needed to.
        diskIsAllZero(x);
        is(x, "change 7 0 5 1 1", 12);
        counts(x, 12, 12, 0, 0, 0, 0, 0);
    }

    private static void changeWithoutRoom() {
        TwinWrites x = new TwinWrites();
        is(x, "change 1 0 12 1 1", 12);
        is(x, "change 2 0 1 5 0", 13);
        // The checkpoint: 12 records, 4 sectors beside, 4 at home, the mark.
        counts(x, 13, 1, 21, 0, 1, 0, 11);
        is(x, "disk 3 0 0", 13);
        is(x, "frame 0 2", 0);
        is(x, "frame 1 2", 1);
        is(x, "disk 0 1 16", 12);
        is(x, "disk 0 2 16", 0);
        is(x, "change 2 0 12 7 0", 25);
        is(x, "disk 3 0 0", 14);
        counts(x, 25, 12, 31, 0, 2, 0, 0);
        // More than 12 never find room; the checkpoint stays, and the page is not brought.
        is(x, "change 3 0 13 7 0", FULL);
        is(x, "disk 3 0 0", 26);
        is(x, "frame 2 0", NONE);
        counts(x, 25, 0, 52, 0, 3, 0, 12);
        is(x, "change 3 0 16 7 0", FULL);
        counts(x, 25, 0, 53, 0, 3, 0, 12);
        is(x, "change 3 0 12 7 0", 37);
        counts(x, 37, 12, 53, 0, 3, 0, 0);
    }

    private static void changeLost() {
        // In the checkpoint, at its mark: all was logged and cleaned, but the new change is gone.
        TwinWrites x = new TwinWrites();
        is(x, "change 1 0 12 1 1", 12);
        is(x, "power 20", 0);
        is(x, "change 2 0 1 5 0", LOST);
        counts(x, 0, 0, 20, 1, 1, 0, 0);
        is(x, "recover", 12);
        is(x, "read 2 0", 1);
        is(x, "got", 0);
        // In the cleaning of the frame that is needed.
        TwinWrites y = new TwinWrites();
        for (int page = 0; page < 4; page++) {
            is(y, "change " + page + " 0 1 5 0", page + 1);
        }
        is(y, "power 2", 0);
        is(y, "change 4 0 1 5 0", LOST);
        is(y, "count 3", 1);
        is(y, "frame 0 0", NONE);
        is(y, "recover", 2);
        is(y, "read 1 0", 1);
        is(y, "got", 5);
        is(y, "read 2 0", 1);
        is(y, "got", 0);
        is(y, "change 9 0 1 5 0", 3);
    }

    private static void changeWrong() {
        TwinWrites x = new TwinWrites();
        String[] wrong = {"-1 0 1", "12 0 1", LEAST + " 0 1", MOST + " 0 1", "0 -1 1", "0 -1 2", "0 16 1", "0 16 0",
            "0 0 0", "0 0 -1", "0 0 " + LEAST, "0 0 17", "0 0 " + MOST, "0 15 2", "0 1 16", "0 " + MOST + " 1",
            "0 1 " + MOST, "0 " + LEAST + " 1", "0 " + MOST + " " + MOST, "0 " + LEAST + " " + LEAST};
        for (String w : wrong) {
            is(x, "change " + w + " 5 5", INDEX);
        }
        counts(x, 0, 0, 0, 0, 0, 0, 12);
        is(x, "frame 0 0", NONE);
        is(x, "change 11 15 1 5 5", 1);
        is(x, "cut", 1);
        is(x, "change 0 0 1 5 5", STATE);
        for (String w : wrong) {
            is(x, "change " + w + " 5 5", INDEX);
        }
        is(x, "recover", 0);
    }

    private static void read() {
        TwinWrites x = new TwinWrites();
        is(x, "change 11 0 12 1 1", 12);
        is(x, "read 11 11", 1);
        is(x, "got", 12);
        is(x, "read 11 15", 1);
        is(x, "got", 0);
        // It is brought: in the next frame, with its home's stamp, not dirty.
        is(x, "checkpoint", 1);
        is(x, "cut", 0);
        is(x, "recover", 12);
        is(x, "read 11 1", 1);
        is(x, "got", 2);
        is(x, "frame 0 0", 11);
        is(x, "frame 0 1", 12);
        is(x, "frame 0 2", 0);
        for (String w : new String[] {"-1 0", "12 0", "0 -1", "0 16", LEAST + " 0", "0 " + LEAST, MOST + " 0", "0 " + MOST}) {
            is(x, "read " + w, INDEX);
            is(x, "got", 2);
        }
        is(x, "cut", 0);
        is(x, "read 0 0", STATE);
        is(x, "read 12 0", INDEX);
        is(x, "read 0 16", INDEX);
        is(x, "frame 0 0", NONE);
    }

    private static void got() {
        TwinWrites x = new TwinWrites();
        is(x, "got", 0);
        for (int page = 0; page < 4; page++) {
            is(x, "change " + page + " 2 1 77 0", page + 1);
        }
        is(x, "got", 0);
        is(x, "read 1 2", 1);
        is(x, "got", 77);
        is(x, "got", 77);
        // A read that throws was none, and power is of no matter to what was got before.
        is(x, "read 1 16", INDEX);
        is(x, "got", 77);
        is(x, "sync", 4);
        is(x, "cut", 0);
        is(x, "got", 77);
        is(x, "read 1 2", STATE);
        is(x, "got", 77);
        is(x, "recover", 4);
        is(x, "got", 77);
        is(x, "power 0", 0);
        is(x, "read 9 0", LOST);
        is(x, "got", 0);
        is(x, "count 3", 1);
    }

    private static void framesAreFilled() {
        TwinWrites x = new TwinWrites();
        for (int page = 5; page < 9; page++) {
            is(x, "read " + page + " 0", 1);
        }
        pages(x, 5, 6, 7, 8);
        is(x, "read 5 0", 1);
        pages(x, 5, 6, 7, 8);
        // Now 6 was asked for longest ago; it isn't dirty, so nothing is written.
        is(x, "change 0 0 1 9 0", 1);
        pages(x, 5, 0, 7, 8);
        counts(x, 1, 1, 0, 0, 0, 0, 11);
        is(x, "read 7 0", 1);
        is(x, "read 8 0", 1);
        is(x, "read 1 0", 1);
        pages(x, 1, 0, 7, 8);
        counts(x, 1, 1, 0, 0, 0, 0, 11);
        // Frame 1 is dirty: a record, 4 sectors in slot 0, 4 at home; no mark.
        is(x, "read 2 0", 1);
        pages(x, 1, 2, 7, 8);
        counts(x, 1, 0, 9, 0, 1, 0, 11);
        is(x, "disk 1 0 0", 9);
        is(x, "disk 1 0 16", 1);
        is(x, "disk 0 0 19", 1);
        is(x, "disk 3 0 0", 1);
        is(x, "read 0 0", 1);
        is(x, "got", 9);
        pages(x, 1, 2, 0, 8);
        is(x, "frame 2 1", 1);
        is(x, "frame 2 2", 0);
        // A change that is FULL asks for no page, nor does sync or a checkpoint.
        is(x, "change 8 0 13 1 1", FULL);
        is(x, "sync", 0);
        is(x, "checkpoint", 0);
        is(x, "read 3 0", 1);
        pages(x, 1, 2, 0, 3);
        is(x, "read 4 0", 1);
        pages(x, 4, 2, 0, 3);
    }

    private static void sync() {
        TwinWrites x = new TwinWrites();
        is(x, "sync", 0);
        is(x, "change 3 14 2 8 1", 2);
        is(x, "change 4 0 1 -6 0", 3);
        is(x, "sync", 3);
        is(x, "sync", 0);
        counts(x, 3, 0, 3, 0, 0, 0, 9);
        record(x, 0, 0, 0, 0, 0);
        record(x, 1, 1, 3, 14, 8);
        record(x, 2, 2, 3, 15, 9);
        record(x, 3, 3, 4, 0, -6);
        record(x, 4, 0, 0, 0, 0);
        // Still dirty: a sync is no cleaning.
        is(x, "frame 0 2", 1);
        is(x, "frame 1 2", 1);
        is(x, "checkpoint", 2);
        is(x, "change 5 0 12 1 1", 15);
        is(x, "sync", 12);
        record(x, 11, 11, 5, 7, 8);
        record(x, 0, 12, 5, 8, 9);
        record(x, 1, 13, 5, 9, 10);
        record(x, 3, 15, 5, 11, 12);
        record(x, 4, 4, 5, 0, 1);
    }

    private static void syncLost() {
        for (int n = 0; n < 3; n++) {
            TwinWrites x = new TwinWrites();
            is(x, "change 3 14 2 8 1", 2);
            is(x, "change 4 0 1 -6 0", 3);
            is(x, "power " + n, 0);
            is(x, "sync", LOST);
            counts(x, 0, 0, n, 1, 0, 0, 0);
            for (int k = 1; k < 4; k++) {
                is(x, "disk 2 " + k + " 0", k <= n ? k : 0);
            }
            is(x, "sync", STATE);
            pages(x, NONE, NONE, NONE, NONE);
            // No power is set any longer.
            is(x, "recover", n);
            is(x, "checkpoint", n == 0 ? 0 : n == 3 ? 2 : 1);
        }
        TwinWrites x = new TwinWrites();
        is(x, "power 0", 0);
        is(x, "sync", 0);
        is(x, "count 3", 0);
    }

    private static void checkpoint() {
        TwinWrites x = new TwinWrites();
        // The mark is written even if nothing is dirty.
        is(x, "checkpoint", 0);
        counts(x, 0, 0, 1, 0, 0, 0, 12);
        is(x, "disk 3 0 0", 1);
        is(x, "change 9 4 4 1 1", 4);
        is(x, "read 0 0", 1);
        is(x, "change 2 0 1 7 0", 5);
        is(x, "checkpoint", 2);
        counts(x, 5, 0, 1 + 5 + 16 + 1, 0, 2, 0, 12);
        is(x, "disk 3 0 0", 6);
        // By frames, into slots without a gap for the frame that is not dirty.
        for (int s = 0; s < 4; s++) {
            is(x, "disk 1 0 " + (16 + s), 4);
            is(x, "disk 1 0 " + (20 + s), 9);
            is(x, "disk 1 1 " + (16 + s), 5);
            is(x, "disk 1 1 " + (20 + s), 2);
            is(x, "disk 0 9 " + (16 + s), 4);
            is(x, "disk 0 2 " + (16 + s), 5);
            is(x, "disk 0 0 " + (16 + s), 0);
        }
        for (int i = 0; i < 16; i++) {
            is(x, "disk 0 9 " + i, i >= 4 && i < 8 ? i - 3 : 0);
            is(x, "disk 1 0 " + i, i >= 4 && i < 8 ? i - 3 : 0);
        }
        is(x, "disk 1 1 0", 7);
        is(x, "disk 1 2 20", 0);
        pages(x, 9, 0, 2, NONE);
        for (int k = 0; k < 4; k++) {
            is(x, "frame " + k + " 2", 0);
        }
        is(x, "frame 0 1", 4);
        is(x, "checkpoint", 0);
        is(x, "cut", 0);
        is(x, "checkpoint", STATE);
    }

    private static void checkpointLost() {
        // Two records, two pages beside, two at home, the mark.
        for (int n = 0; n <= 18; n++) {
            TwinWrites x = new TwinWrites();
            is(x, "change 6 0 1 8 0", 1);
            is(x, "change 3 15 1 9 0", 2);
            is(x, "power " + n, 0);
            is(x, "checkpoint", LOST);
            counts(x, 0, 0, n, 1, n == 18 ? 2 : 0, 0, 0);
            is(x, "disk 3 0 0", 1);
            for (int s = 0; s < 4; s++) {
                is(x, "disk 1 0 " + (16 + s), n > 2 + s ? 1 : 0);
                is(x, "disk 1 0 " + (20 + s), n > 2 + s ? 6 : 0);
                is(x, "disk 1 1 " + (16 + s), n > 6 + s ? 2 : 0);
                is(x, "disk 0 6 " + (16 + s), n > 10 + s ? 1 : 0);
                is(x, "disk 0 3 " + (16 + s), n > 14 + s ? 2 : 0);
            }
            is(x, "disk 0 6 0", n > 10 ? 8 : 0);
            is(x, "disk 0 3 15", n > 17 ? 9 : 0);
        }
    }

    private static void power() {
        TwinWrites x = new TwinWrites();
        is(x, "power -2", INDEX);
        is(x, "power 10001", INDEX);
        is(x, "power LEAST", INDEX);
        is(x, "power MOST", INDEX);
        is(x, "power 10000", 0);
        is(x, "checkpoint", 0);
        is(x, "power 0", 0);
        is(x, "power NONE", 0);
        is(x, "checkpoint", 0);
        // Set anew, it counts from now on; a call that throws leaves it as it is.
        is(x, "power 2", 0);
        is(x, "checkpoint", 0);
        is(x, "power 1", 0);
        is(x, "power 10001", INDEX);
        is(x, "power -2", INDEX);
        is(x, "checkpoint", 0);
        is(x, "checkpoint", LOST);
        is(x, "count 2", 4);
        // It went once: none is set now.
        is(x, "recover", 0);
        is(x, "checkpoint", 0);
        // Also while down, and over the recovery, which writes nothing here.
        is(x, "cut", 0);
        is(x, "power 1", 0);
        is(x, "power -2", INDEX);
        is(x, "recover", 0);
        is(x, "checkpoint", 0);
        is(x, "checkpoint", LOST);
        is(x, "power 0", 0);
        is(x, "power NONE", 0);
        is(x, "recover", 0);
        is(x, "checkpoint", 0);
    }

    private static void recoverFromTheLog() {
        TwinWrites x = new TwinWrites();
        is(x, "recover", STATE);
        is(x, "change 4 0 3 1 1", 3);
        is(x, "checkpoint", 1);
        is(x, "change 2 5 2 50 1", 5);
        is(x, "change 4 0 1 100 0", 6);
        is(x, "sync", 3);
        is(x, "change 4 1 1 200 0", 7);
        is(x, "cut", 1);
        is(x, "recover", 6);
        is(x, "recover", STATE);
        counts(x, 6, 0, 15, 0, 1, 0, 9);
        pages(x, 2, 4, NONE, NONE);
        is(x, "frame 0 1", 5);
        is(x, "frame 0 2", 1);
        is(x, "frame 0 8", 50);
        is(x, "frame 0 9", 51);
        is(x, "frame 1 1", 6);
        is(x, "frame 1 2", 1);
        words(x, 1, 100, 2, 3, 0);
        // The number that was lost is given anew.
        is(x, "change 0 0 1 1 0", 7);
        // The log from the mark on is gone through again, pages that are up to date are brought, too.
        is(x, "checkpoint", 3);
        is(x, "cut", 0);
        is(x, "recover", 7);
        pages(x, NONE, NONE, NONE, NONE);
        is(x, "change 1 0 12 1 1", 19);
        is(x, "power 20", 0);
        is(x, "checkpoint", LOST);
        is(x, "recover", 19);
        pages(x, 1, NONE, NONE, NONE);
        is(x, "frame 0 1", 19);
        is(x, "frame 0 2", 0);
        is(x, "count 6", 0);
        is(x, "checkpoint", 0);
        is(x, "count 6", 12);
    }

    private static void recoverMends() {
        // Home of page 6 torn at each of its sectors: 4 sectors mend it, whole homes are let be.
        for (int s = 1; s < 4; s++) {
            TwinWrites x = new TwinWrites();
            is(x, "change 6 0 12 8 1", 12);
            is(x, "power " + (16 + s), 0);
            is(x, "checkpoint", LOST);
            is(x, "disk 0 6 " + (15 + s), 12);
            is(x, "disk 0 6 " + (16 + s), 0);
            is(x, "recover", 12);
            counts(x, 12, 0, 16 + s + 4, 0, 0, 1, 0);
            for (int i = 0; i < 20; i++) {
                is(x, "disk 0 6 " + i, i < 12 ? 8 + i : i < 16 ? 0 : 12);
            }
            is(x, "frame 0 0", 6);
            is(x, "frame 0 1", 12);
            is(x, "frame 0 2", 0);
            is(x, "disk 3 0 0", 1);
        }
        TwinWrites x = new TwinWrites();
        is(x, "change 6 0 1 8 0", 1);
        is(x, "power 5", 0);
        is(x, "checkpoint", LOST);
        is(x, "recover", 1);
        counts(x, 1, 0, 5, 0, 0, 0, 11);
        is(x, "frame 0 2", 1);
        // The slot of another page behind it, and slots that are torn, mend nothing.
        TwinWrites y = new TwinWrites();
        is(y, "change 8 0 1 1 0", 1);
        is(y, "change 2 0 1 2 0", 2);
        is(y, "power " + (2 + 8 + 5), 0);
        is(y, "checkpoint", LOST);
        is(y, "recover", 2);
        is(y, "count 5", 1);
        is(y, "disk 0 2 0", 2);
        is(y, "disk 0 2 19", 2);
        is(y, "disk 0 8 0", 1);
    }

    private static void recoverMendsFromTheGreatestStamp() {
        // Slot 1 still has page 6 whole as of change 2, slot 0 has it as of change 3.
        TwinWrites x = new TwinWrites();
        is(x, "change 0 0 1 1 0", 1);
        is(x, "change 6 0 1 1 0", 2);
        is(x, "checkpoint", 2);
        is(x, "change 6 0 1 20 0", 3);
        is(x, "power " + (1 + 4 + 1), 0);
        is(x, "checkpoint", LOST);
        is(x, "disk 1 0 20", 6);
        is(x, "disk 1 1 20", 6);
        is(x, "recover", 3);
        is(x, "count 5", 1);
        for (int s = 0; s < 4; s++) {
            is(x, "disk 0 6 " + (16 + s), 3);
        }
        is(x, "disk 0 6 0", 20);
        // Page 0 has slots of stamp 0 from the first on, slots 1 to 3 here.
        TwinWrites y = new TwinWrites();
        is(y, "change 0 0 1 20 0", 1);
        is(y, "power " + (1 + 4 + 2), 0);
        is(y, "checkpoint", LOST);
        is(y, "recover", 1);
        is(y, "count 5", 1);
        is(y, "disk 0 0 0", 20);
        is(y, "disk 0 0 19", 1);
    }

    private static void recoverUpToDate() {
        TwinWrites x = new TwinWrites();
        for (int page = 0; page < 6; page++) {
            is(x, "change " + page + " 0 1 " + (10 + page) + " 0", page + 1);
        }
        is(x, "sync", 1);
        counts(x, 6, 0, 22, 0, 2, 0, 6);
        is(x, "cut", 0);
        // Pages 0 and 1 are brought, but up to date; so they give way without a cleaning.
        is(x, "recover", 6);
        counts(x, 6, 0, 22, 0, 2, 0, 6);
        pages(x, 4, 5, 2, 3);
        // Of those, 2 was asked for longest ago.
        is(x, "read 7 0", 1);
        pages(x, 4, 5, 7, 3);
        is(x, "count 4", 3);
    }

    private static void recoverCleans() {
        TwinWrites x = oldestStaysDirty();
        is(x, "sync", 1);
        is(x, "cut", 0);
        // Page 9 is the oldest when page 4 is brought, and dirty: 4 sectors in slot 0, 4 at home.
        is(x, "recover", 5);
        counts(x, 5, 0, 12 + 1 + 8, 0, 2, 0, 7);
        pages(x, 4, 1, 2, 3);
        is(x, "disk 0 9 0", 50);
        is(x, "disk 0 9 19", 1);
        is(x, "disk 1 0 20", 9);
        is(x, "disk 1 0 19", 1);
        is(x, "frame 0 2", 1);
        is(x, "frame 1 2", 0);
        is(x, "frame 2 2", 1);
        is(x, "frame 3 2", 1);
    }

    /** Five changes, of pages 9, 1, 2, 3, 4; all but page 1 are dirty, in frames 2 (page 9), 0, 1, 3. */
    private static TwinWrites oldestStaysDirty() {
        TwinWrites x = new TwinWrites();
        is(x, "read 2 0", 1);
        is(x, "read 3 0", 1);
        is(x, "change 9 0 1 50 0", 1);
        is(x, "change 1 0 1 51 0", 2);
        is(x, "change 2 0 1 52 0", 3);
        is(x, "change 3 0 1 53 0", 4);
        is(x, "read 9 0", 1);
        is(x, "change 4 0 1 54 0", 5);
        pages(x, 2, 3, 9, 4);
        counts(x, 5, 1, 4 + 8, 0, 1, 0, 7);
        return x;
    }

    private static void recoverMendsPastItsOwnCleaning() {
        // A lost checkpoint leaves page 9 in slot 2 as of change 6, whole or torn; the recovery then
        // is lost as it cleans page 9 as of change 1 through slot 0.
        for (int whole = 0; whole < 2; whole++) {
            TwinWrites x = oldestStaysDirty();
            is(x, "change 9 1 1 60 0", 6);
            is(x, "power " + (2 + 8 + (whole == 1 ? 4 : 1)), 0);
            is(x, "checkpoint", LOST);
            is(x, "disk 1 2 16", 6);
            is(x, "disk 1 2 19", whole == 1 ? 6 : 0);
            is(x, "power " + (4 + 2), 0);
            is(x, "recover", LOST);
            is(x, "disk 1 0 20", 9);
            is(x, "disk 1 0 16", 1);
            is(x, "disk 0 9 17", 1);
            is(x, "disk 0 9 18", 0);
            is(x, "power 4", 0);
            is(x, "recover", 6);
            is(x, "count 5", 1);
            is(x, "disk 0 9 0", 50);
            is(x, "disk 0 9 1", whole == 1 ? 60 : 0);
            for (int s = 0; s < 4; s++) {
                is(x, "disk 0 9 " + (16 + s), whole == 1 ? 6 : 1);
            }
        }
    }

    private static void recoverLost() {
        // In the mending, at each of its sectors.
        for (int n = 0; n < 4; n++) {
            TwinWrites x = new TwinWrites();
            is(x, "change 6 0 12 8 1", 12);
            is(x, "power 18", 0);
            is(x, "checkpoint", LOST);
            is(x, "power " + n, 0);
            is(x, "recover", LOST);
            counts(x, 0, 0, 18 + n, 1, 0, 0, 0);
            pages(x, NONE, NONE, NONE, NONE);
            is(x, "recover", 12);
            counts(x, 12, 0, 18 + n + 4, 0, 0, 1, 0);
            is(x, "disk 0 6 11", 19);
        }
        // With exactly as many sectors as it needs it is not lost; the next one is.
        TwinWrites x = new TwinWrites();
        is(x, "change 6 0 12 8 1", 12);
        is(x, "power 18", 0);
        is(x, "checkpoint", LOST);
        is(x, "power 4", 0);
        is(x, "recover", 12);
        is(x, "checkpoint", LOST);
        is(x, "recover", 12);
        // Mended is mended, though the recovery is lost behind it, in the cleaning of a frame.
        TwinWrites y = oldestStaysDirty();
        is(y, "power " + (1 + 16 + 1), 0);
        is(y, "checkpoint", LOST);
        is(y, "disk 0 2 16", 3);
        is(y, "disk 0 2 17", 0);
        is(y, "power " + (4 + 4 + 2), 0);
        is(y, "recover", LOST);
        counts(y, 0, 0, 12 + 18 + 10, 1, 1, 1, 0);
        is(y, "disk 0 2 17", 3);
        is(y, "disk 0 9 17", 1);
        is(y, "disk 0 9 18", 0);
        // Page 9 was torn by that, and needs no cleaning when it is mended.
        is(y, "power 4", 0);
        is(y, "recover", 5);
        counts(y, 5, 0, 12 + 18 + 10 + 4, 0, 1, 2, 7);
        pages(y, 4, 1, 2, 3);
        is(y, "checkpoint", LOST);
        is(y, "recover", 5);
        is(y, "checkpoint", 2);
        is(y, "count 6", 12);
    }

    private static void cut() {
        TwinWrites x = new TwinWrites();
        is(x, "change 5 0 3 1 1", 3);
        is(x, "sync", 3);
        is(x, "change 5 3 2 4 1", 5);
        is(x, "read 0 0", 1);
        is(x, "power 0", 0);
        is(x, "cut", 2);
        counts(x, 0, 0, 3, 1, 0, 0, 0);
        pages(x, NONE, NONE, NONE, NONE);
        for (int what = 1; what < 19; what++) {
            is(x, "frame 0 " + what, 0);
        }
        is(x, "disk 2 3 0", 3);
        is(x, "disk 2 4 0", 0);
        is(x, "cut", STATE);
        is(x, "recover", 3);
        // No power is set: the one from before the cut is gone.
        is(x, "checkpoint", 1);
        is(x, "cut", 0);
    }

    private static void disk() {
        TwinWrites x = new TwinWrites();
        is(x, "change 10 0 12 21 1", 12);
        is(x, "checkpoint", 1);
        is(x, "change 10 12 4 33 1", 16);
        is(x, "checkpoint", 1);
        is(x, "change 9 2 1 5 0", 17);
        is(x, "sync", 1);
        for (int time = 0; time < 2; time++) {
            for (int i = 0; i < 16; i++) {
                is(x, "disk 0 10 " + i, 21 + i);
                is(x, "disk 1 0 " + i, 21 + i);
                is(x, "disk 0 9 " + i, 0);
            }
            for (int s = 0; s < 4; s++) {
                is(x, "disk 0 10 " + (16 + s), 16);
                is(x, "disk 1 0 " + (16 + s), 16);
                is(x, "disk 1 0 " + (20 + s), 10);
            }
            record(x, 4, 16, 10, 15, 36);
            record(x, 5, 17, 9, 2, 5);
            record(x, 6, 6, 10, 5, 26);
            is(x, "disk 3 0 0", 17);
            if (time == 0) {
                is(x, "cut", 0);
            }
        }
    }

    private static void diskWrong() {
        TwinWrites x = new TwinWrites();
        String[] wrong = {"-1 0 0", "4 0 0", LEAST + " 0 0", MOST + " 0 0",
            "0 -1 0", "0 12 0", "0 0 -1", "0 0 20", "0 0 23", "0 11 20",
            "1 -1 0", "1 4 0", "1 0 -1", "1 0 24",
            "2 -1 0", "2 12 0", "2 0 -1", "2 0 4",
            "3 1 0", "3 0 1", "3 -1 0", "3 0 -1",
            "0 " + MOST + " 0", "0 0 " + MOST, "1 " + MOST + " 0", "1 0 " + LEAST, "2 " + LEAST + " 0", "2 0 " + MOST};
        for (String w : wrong) {
            is(x, "disk " + w, INDEX);
        }
        is(x, "cut", 0);
        for (String w : wrong) {
            is(x, "disk " + w, INDEX);
        }
        is(x, "disk 0 11 19", 0);
        is(x, "disk 1 3 23", 0);
        is(x, "disk 2 11 3", 0);
    }

    private static void frame() {
        TwinWrites x = new TwinWrites();
        is(x, "read 0 0", 1);
        is(x, "change 8 0 12 41 1", 12);
        is(x, "frame 0 0", 0);
        is(x, "frame 1 0", 8);
        is(x, "frame 1 1", 12);
        is(x, "frame 1 2", 1);
        for (int i = 0; i < 16; i++) {
            is(x, "frame 1 " + (3 + i), i < 12 ? 41 + i : 0);
            is(x, "frame 2 " + (3 + i), 0);
        }
        is(x, "frame 2 0", NONE);
        is(x, "checkpoint", 1);
        is(x, "frame 1 1", 12);
        is(x, "frame 1 2", 0);
        for (String w : new String[] {"-1 0", "4 0", "0 -1", "0 19", MOST + " 0", LEAST + " 0", "0 " + MOST, "0 " + LEAST}) {
            is(x, "frame " + w, INDEX);
        }
        is(x, "cut", 0);
        is(x, "frame 1 0", NONE);
        is(x, "frame 1 1", 0);
        is(x, "frame 1 3", 0);
        is(x, "frame 1 18", 0);
        is(x, "frame 1 19", INDEX);
    }

    private static void count() {
        TwinWrites x = new TwinWrites();
        for (int what : new int[] {-1, 7, LEAST, MOST}) {
            is(x, "count " + what, INDEX);
        }
        is(x, "change 0 0 5 1 1", 5);
        counts(x, 5, 5, 0, 0, 0, 0, 7);
        is(x, "sync", 5);
        counts(x, 5, 0, 5, 0, 0, 0, 7);
        is(x, "checkpoint", 1);
        counts(x, 5, 0, 14, 0, 1, 0, 12);
        is(x, "change 0 0 1 1 1", 6);
        is(x, "cut", 1);
        counts(x, 0, 0, 14, 1, 1, 0, 0);
        is(x, "count 7", INDEX);
        is(x, "recover", 5);
        counts(x, 5, 0, 14, 0, 1, 0, 12);
    }
}
