import java.util.ArrayList;
import java.util.HashSet;
import java.util.List;
import java.util.Map;
import java.util.Set;

/**
 * Each sentence of the document that names a boundary case (too small, too large, empty, full, a
 * wrap-around, a refused call) has a test of its own here, under its own words, in their order there.
 */
public final class BoundaryTests extends Calls {
    /**
     * Five changes, of pages 9, 1, 2, 3, 4. Page 1 was cleaned for page 4 (4 records, 8 sectors), so
     * frames 0 .. 3 hold 2, 3, 9, 4, all dirty, and change 5 waits. If this is logged and recovered,
     * page 9 is the oldest one and dirty when page 4 is brought, so that it must be cleaned.
     */
    private static final String FIVE = "read 2 0; read 3 0; change 9 0 1 50 0; change 1 0 1 51 0; "
            + "change 2 0 1 52 0; change 3 0 1 53 0; read 9 0; change 4 0 1 54 0 = 5; ";

    /** Frames full, asked for in the order 7, 8, 5, 6; six changes wait, and a word was got. */
    private static final String BUSY = "change 5 0 3 10 1; change 6 1 2 20 1; read 7 0; change 8 4 1 30 0; "
            + "read 5 1; read 6 1; ";

    public static void main(String[] args) {
        whatItIs();
        theDisk();
        memory();
        power();
        exceptions();
        newObjectAndChange();
        readToCheckpoint();
        powerToCut();
        diskToCount();
        due.end("BoundaryTests");
    }

    private static void whatItIs() {
        atMost512Calls();
    }

    private static void theDisk() {
        sectorsAreWrittenWhollyOrNot();
        fourSectorsOfFourWords();
        twelvePages();
        fourSlots();
        twelveRecords();
        oneMark();
        allIsZeroAtFirst();
        wholeAtHome();
        wholeBeside();
        writtenFrom0To3();
    }

    private static void memory() {
        fourFrames();
        inAFrameAlready();
        leastFrameWithoutAPage();
        askedForLongestAgo();
        cleanedFirstIfDirty();
        askedForNowInEachCase();
        numbersFrom1();
        changeToTheSameWord();
        recordsWrapAround();
        cleanThoseThatAreDirty();
        besideBeforeHome();
        oneAloneIntoSlot0();
        markIsWrittenLast();
        roomToTheLastRecord();
    }

    private static void power() {
        nthSector();
        allIsGone();
        noneOrOneHomeIsTorn();
        greatestStamp();
        logFromTheMarkOn();
        stampBelow();
        frameCleanedInRecovery();
        firstNumberNotThere();
        powerGoesInRecovery();
    }

    private static void exceptions() {
        namedFirst();
        noSuchThing();
        allIsDown();
        throwingChangesNothing();
    }

    private static void newObjectAndChange() {
        nothingInMemory();
        powerStays();
        wordsWithSteps();
        checkpointFirst();
        fullBehindTheCheckpoint();
        lostChanges();
        countOfWordsWrong();
    }

    private static void readToCheckpoint() {
        readFirstAndLast();
        readRefused();
        gotOfTheLatestRead();
        howManyWereWritten();
        syncRefused();
        howManyWereCleaned();
        checkpointRefused();
    }

    private static void powerToCut() {
        powerNone();
        powerWhileDown();
        powerRange();
        howManyCount();
        recoverRefused();
        howManyWaited();
        cutRefused();
    }

    private static void diskToCount() {
        diskWhileDown();
        diskOfPlaces();
        diskOfTheLog();
        diskOfTheMark();
        frameWithoutAPage();
        frameRefused();
        countOfChanges();
        countOfWaiting();
        countOfSectors();
        countOfDown();
        countOfCleaned();
        countOfMended();
        countOfRoom();
        countRefused();
    }

    // What it is.

    private static void atMost512Calls() {
        says("An object is used for at most 512 calls after it has been made;");
        TwinWrites x = new TwinWrites();
        for (int i = 1; i <= 512; i++) {
            is(x, "change " + i % 12 + " " + i % 5 + " 12 " + i + " 1", 12 * i);
        }
        TwinWrites y = new TwinWrites();
        for (int i = 1; i <= 508; i++) {
            is(y, "change " + i % 12 + " " + i % 16 + " 1 " + i + " 1", i);
        }
        // The last checkpoint was before change 505, so that four clean frames gave way since then.
        go(y, "sync = 4; cut = 0; recover = 508; count 0 = 508");
    }

    // Terms: the disk.

    private static void sectorsAreWrittenWhollyOrNot() {
        says("THE DISK writes SECTORS, each wholly or not at all.");
        // Page 2 has words in all its sectors at home, page 5 in slot 0, and no record is empty. Then
        // three words of each sector of page 2 are changed: the first three, or the last three.
        String before = "change 2 0 12 201 1; checkpoint; change 2 12 4 213 1; checkpoint; "
                + "change 5 0 12 501 1; checkpoint; change 5 12 4 513 1; checkpoint; ";
        for (int at = 0; at < 2; at++) {
            String script = before + "change 2 " + at + " 3 11 1; change 2 " + (4 + at) + " 3 21 1; change 2 "
                    + (8 + at) + " 3 31 1; change 2 " + (12 + at) + " 3 41 1 = 44; ";
            Map<String, Integer> old = seen(script);
            Map<String, Integer> all = seen(script + "checkpoint = 1");
            List<Set<String>> sectors = sectorsOfTheCheckpoint();
            for (int n = 0; n < sectors.size(); n++) {
                Map<String, Integer> some = seen(script + "power " + n + "; checkpoint = LOST");
                Set<String> written = new HashSet<>();
                sectors.subList(0, n).forEach(written::addAll);
                for (String cell : old.keySet()) {
                    if (cell.startsWith("disk")) {
                        same(cell, some, written.contains(cell) ? all : old);
                    }
                }
            }
        }
    }

    /** Changes 33 to 44, page 2 into slot 0, page 2 at home, the mark; each sector by its cells. */
    private static List<Set<String>> sectorsOfTheCheckpoint() {
        List<Set<String>> sectors = new ArrayList<>();
        for (int number = 33; number <= 44; number++) {
            Set<String> cells = new HashSet<>();
            for (int i = 0; i < 4; i++) {
                cells.add("disk 2 " + number % 12 + " " + i);
            }
            sectors.add(cells);
        }
        for (String place : new String[] {"disk 1 0 ", "disk 0 2 "}) {
            for (int s = 0; s < 4; s++) {
                Set<String> cells = new HashSet<>();
                for (int i = 4 * s; i < 4 * s + 4; i++) {
                    cells.add(place + i);
                }
                cells.add(place + (16 + s));
                if (place.startsWith("disk 1")) {
                    cells.add(place + (20 + s));
                }
                sectors.add(cells);
            }
        }
        sectors.add(Set.of("disk 3 0 0"));
        return sectors;
    }

    private static void fourSectorsOfFourWords() {
        says("A PAGE has four sectors, 0 .. 3, each with a STAMP and four words (ints): words 4 k to 4 k + 3 are in sector k.");
        for (int n = 0; n <= 4; n++) {
            // The first and the last word of each sector are changed; n sectors come home.
            TwinWrites x = run("change 7 0 1 1 0; change 7 3 2 2 1; change 7 7 2 4 1; change 7 11 2 6 1; "
                    + "change 7 15 1 8 0 = 8; power " + (8 + 4 + n) + "; checkpoint = LOST");
            for (int k = 0; k < 4; k++) {
                is(x, "disk 0 7 " + 4 * k, k < n ? 2 * k + 1 : 0);
                is(x, "disk 0 7 " + (4 * k + 3), k < n ? 2 * k + 2 : 0);
                is(x, "disk 0 7 " + (16 + k), k < n ? 8 : 0);
            }
        }
        run("change 7 0 1 LEAST 0 = 1; change 7 15 1 MOST 0 = 2; checkpoint = 1; disk 0 7 0 = LEAST; "
                + "disk 0 7 15 = MOST; disk 0 7 1..14 = 0; disk 0 7 16..19 = 2; cut = 0; recover = 2; "
                + "read 7 0 = 1; got = LEAST; read 7 15 = 1; got = MOST");
    }

    private static void twelvePages() {
        says("HOME is the place of each page 0 .. 11.");
        TwinWrites x = new TwinWrites();
        for (int page = 0; page < 12; page++) {
            is(x, "change " + page + " 15 1 " + (100 + page) + " 0", page + 1);
        }
        go(x, "checkpoint = 4; count 4 = 12; disk 0 0..11 15 = 100 up; disk 0 0..11 16 = 1 up; "
                + "disk 0 0..11 19 = 1 up; disk 0 0..11 14 = 0");
        for (String page : new String[] {"-1", "12", "LEAST", "MOST"}) {
            go(x, "change " + page + " 0 1 5 0 = INDEX; read " + page + " 0 = INDEX; disk 0 " + page + " 0 = INDEX");
        }
    }

    private static void fourSlots() {
        says("BESIDE are four SLOTS, each for a page, with its number in each sector, too.");
        run("change 8 0 1 1 0; change 0 0 1 1 0; change 11 0 1 1 0; change 5 0 1 1 0 = 4; checkpoint = 4; "
                + "disk 1 0 20..23 = 8; disk 1 1 20..23 = 0; disk 1 2 20..23 = 11; disk 1 3 20..23 = 5; "
                + "disk 1 0..3 16 = 1 up; disk 1 0..3 19 = 1 up; disk 1 0..3 0 = 1; "
                + "disk 1 -1 0 = INDEX; disk 1 4 0 = INDEX; disk 1 LEAST 0 = INDEX; disk 1 MOST 0 = INDEX");
    }

    private static void twelveRecords() {
        says("THE LOG has 12 records, one sector each: a NUMBER, a page, which word, and a word.");
        run("change 9 4 12 31 1 = 12; sync = 12; count 2 = 12; disk 2 1..11 0 = 1 up; disk 2 0 0 = 12; "
                + "disk 2 0..11 1 = 9; disk 2 1..11 2 = 4 up; disk 2 0 2 = 15; disk 2 1..11 3 = 31 up; disk 2 0 3 = 42; "
                + "disk 2 -1 0 = INDEX; disk 2 12 0 = INDEX; disk 2 LEAST 0 = INDEX; disk 2 MOST 0 = INDEX; "
                + "disk 2 0 -1 = INDEX; disk 2 11 -1 = INDEX; disk 2 0 4 = INDEX; disk 2 11 4 = INDEX");
    }

    private static void oneMark() {
        says("One sector more is the MARK, a number.");
        run("checkpoint = 0; count 2 = 1; disk 3 0 0 = 1; change 0 0 12 1 0; sync = 12; checkpoint = 1; "
                + "count 2 = 22; disk 3 0 0 = 13; checkpoint = 0; count 2 = 23; disk 3 0 0 = 13");
    }

    private static void allIsZeroAtFirst() {
        says("At first all is 0, but the MARK, which is 1.");
        run("disk 0 0..11 0..19 = 0");
        run("disk 1 0..3 0..23 = 0; disk 2 0..11 0..3 = 0; disk 3 0 0 = 1");
    }

    private static void wholeAtHome() {
        says("A page, at home or beside, is WHOLE if its four stamps are the same");
        // None, one, two, three, or all four sectors come home.
        for (int n = 0; n <= 4; n++) {
            int torn = n > 0 && n < 4 ? 1 : 0;
            run("change 6 0 1 8 0; power " + (1 + 4 + n) + "; checkpoint = LOST; recover = 1; count 5 = " + torn
                    + "; count 2 = " + (1 + 4 + n + 4 * torn) + "; disk 0 6 16..19 = " + (n > 0 ? 1 : 0));
        }
    }

    private static void wholeBeside() {
        says("A page, at home or beside, is WHOLE if its four stamps are the same (beside: the page numbers, too).");
        // A lost checkpoint leaves n sectors of page 9 as of change 6 in slot 2; a lost recovery then
        // tears home 9, behind slot 0 with page 9 as of change 1. Only four sectors make slot 2 whole.
        for (int n = 0; n <= 4; n++) {
            for (int home = 1; home < 4; home++) {
                int stamp = n == 4 ? 6 : 1;
                run(FIVE + "change 9 1 1 60 0 = 6; power " + (2 + 8 + n) + "; checkpoint = LOST; power " + (4 + home)
                        + "; recover = LOST; disk 1 0 20..23 = 9; disk 1 0 16..19 = 1; disk 0 9 19 = 0; recover = 6; "
                        + "count 5 = 1; disk 0 9 16..19 = " + stamp + "; disk 0 9 0 = 50; disk 0 9 1 = " + (n == 4 ? 60 : 0));
            }
        }
    }

    private static void writtenFrom0To3() {
        says("WRITTEN are the sectors of a page from 0 to 3, with its stamp.");
        for (int n = 0; n <= 8; n++) {
            TwinWrites x = run("change 3 0 1 5 0 = 1; power " + (1 + n) + "; checkpoint = LOST");
            for (int s = 0; s < 4; s++) {
                is(x, "disk 1 0 " + (16 + s), s < n ? 1 : 0);
                is(x, "disk 1 0 " + (20 + s), s < n ? 3 : 0);
                is(x, "disk 0 3 " + (16 + s), s < n - 4 ? 1 : 0);
            }
        }
    }

    // Terms: memory.

    private static void fourFrames() {
        says("FRAMES 0 .. 3 hold a page each, or none (at first): its words, its stamp, whether it is DIRTY.");
        run("frame 0..3 0 = NONE; frame 0..3 1..18 = 0; read 5..8 0 = 1; frame 0..3 0 = 5 up; "
                + "read 9 0 = 1; frame 0 0 = 9; frame 1..3 0 = 6 up; change 9 15 1 4 0 = 1; frame 0 18 = 4; "
                + "frame 0 1 = 1; frame 0 2 = 1; frame -1 0 = INDEX; frame 4 0 = INDEX; frame LEAST 0 = INDEX; "
                + "frame MOST 0 = INDEX");
    }

    private static void inAFrameAlready() {
        says("A page that is asked for is BROUGHT: it is in a frame;");
        run("change 5 0 1 1 0 = 1; read 6..8 0 = 1; read 5 0 = 1; got = 1; change 5 1 1 2 0 = 2; read 5..8 0 = 1; "
                + "frame 0..3 0 = 5 up; frame 0 3..4 = 1 up; frame 0 2 = 1; count 2 = 0");
    }

    private static void leastFrameWithoutAPage() {
        says("else it comes from home into the least frame without a page,");
        run("read 4 0 = 1; frame 0 0 = 4; frame 1..3 0 = NONE; read 0 0 = 1; frame 1 0 = 0; frame 2..3 0 = NONE; "
                + "read 11 0 = 1; frame 2 0 = 11; frame 3 0 = NONE; read 3 0 = 1; frame 3 0 = 3; frame 0 0 = 4");
        run("change 4 0 1 70 0; change 2 0 1 71 0; sync = 2; cut = 0; recover = 2; frame 0 0 = 4; frame 1 0 = 2; "
                + "frame 2..3 0 = NONE; read 9 0 = 1; frame 2 0 = 9; frame 3 0 = NONE");
        // From home: its words and its stamp, and it is not dirty.
        run("change 4 0 12 70 1; checkpoint = 1; cut = 0; recover = 12; read 4 0 = 1; frame 0 0 = 4; frame 0 1 = 12; "
                + "frame 0 2 = 0; frame 0 3..14 = 70 up; frame 0 15..18 = 0");
    }

    private static void askedForLongestAgo() {
        says("or, if there is none, into that whose page was asked for longest ago,");
        run("read 5..8 0 = 1; read 6 0; read 5 0; read 8 0; read 9 0 = 1; frame 0 0 = 5; frame 1 0 = 6; frame 2 0 = 9; "
                + "frame 3 0 = 8; read 10 0 = 1; frame 1 0 = 10; read 11 0 = 1; frame 0 0 = 11; read 0 0 = 1; "
                + "frame 3 0 = 0; read 1 0 = 1; frame 2 0 = 1; read 2 0 = 1; frame 1 0 = 2; frame 0 0 = 11; frame 3 0 = 0");
    }

    private static void cleanedFirstIfDirty() {
        says("which is CLEANED first, if it is dirty.");
        String full = "change 5 0 1 1 0 = 1; read 6..8 0; ";
        run(full + "read 9 0 = 1; count 2 = 9; count 4 = 1; disk 0 5 0 = 1; disk 0 5 16..19 = 1; frame 0 0 = 9; "
                + "frame 0 2 = 0; read 10 0 = 1; count 2 = 9; count 4 = 1; read 5 0 = 1; got = 1");
        run(full + "checkpoint = 1; read 9 0 = 1; count 2 = 10; count 4 = 1");
        // If it is not, nothing is done for it, and what waits goes on waiting.
        run("read 5..7 0; change 8 0 1 1 0 = 1; read 9 0 = 1; frame 0 0 = 9; count 1 = 1; count 2 = 0; count 4 = 0");
        for (int n = 0; n <= 8; n++) {
            run(full + "power " + n + "; read 9 0 = LOST; count 2 = " + n + "; frame 0 0 = NONE");
        }
        run(full + "power 9; read 9 0 = 1; frame 0 0 = 9; count 3 = 0; checkpoint = LOST; count 2 = 9");
    }

    private static void askedForNowInEachCase() {
        says("(Asked for now, in each case.)");
        run("read 5..8 0; read 5 0; read 9 0; frame 0 0 = 5; frame 1 0 = 9");
        run("read 5..8 0; change 5 0 1 1 0; read 9 0; frame 0 0 = 5; frame 1 0 = 9");
        run("read 5..8 0; read 9..10 0; frame 0..1 0 = 9 up; read 11 0; frame 0..2 0 = 9 up; frame 3 0 = 8");
        run("read 5..8 0; change 9..10 0 1 1 0; read 11 0; frame 0..2 0 = 9 up; frame 3 0 = 8");
        // In a recovery, too, and of pages that are up to date.
        run("change 0..5 0 1 8 0 = 1 up; sync = 1; cut = 0; recover = 6; frame 0..1 0 = 4 up; frame 2..3 0 = 2 up; "
                + "read 7 0; frame 0..1 0 = 4 up; frame 2 0 = 7; frame 3 0 = 3");
        run("change 0..3 0 1 8 0; change 0 0 1 9 0 = 5; sync = 5; cut = 0; recover = 5; read 9 0; frame 0 0 = 0; "
                + "frame 1 0 = 9; frame 2..3 0 = 2 up");
        // A change that is FULL asks for no page, nor does one that throws, nor a sync or a checkpoint.
        run("read 5..8 0; change 5 0 13 1 1 = FULL; change 5 0 17 1 1 = INDEX; sync = 0; checkpoint = 0; read 9 0; "
                + "frame 0 0 = 9; frame 1..3 0 = 6 up");
    }

    private static void numbersFrom1() {
        says("CHANGES have NUMBERS from 1 on.");
        run("count 0 = 0; change 4 0 1 9 0 = 1; count 0 = 1; sync = 1; disk 2 0 0 = 0; disk 2 1 0 = 1");
        run("change 4 0 5 9 0 = 5");
        run("cut = 0; recover = 0; change 4 0 1 9 0 = 1");
        run("change 4 0 3 9 0 = 3; cut = 3; recover = 0; change 4 0 1 9 0 = 1");
    }

    private static void changeToTheSameWord() {
        says("A change of a word of a page brings the page, the word is that then, the page's stamp that number, "
                + "it is DIRTY; and the change WAITS to be logged.");
        run("change 4 0 1 0 0 = 1; frame 0 0 = 4; frame 0 1 = 1; frame 0 2 = 1; frame 0 3 = 0; count 1 = 1; "
                + "checkpoint = 1; frame 0 2 = 0; disk 0 4 16..19 = 1; change 4 0 1 0 0 = 2; frame 0 1 = 2; "
                + "frame 0 2 = 1; count 1 = 1; sync = 1; disk 2 2 0 = 2");
        run("change 4 0 1 6 0; change 4 0 1 7 0 = 2; frame 0 3 = 7; frame 0 1 = 2; count 1 = 2; sync = 2; "
                + "disk 2 1 3 = 6; disk 2 2 3 = 7");
    }

    private static void recordsWrapAround() {
        says("TO SYNC: the changes that wait are written to the log, by numbers, number n as record n modulo 12; then none waits.");
        run("change 0 0 12 1 1 = 12; sync = 12; disk 2 11 0 = 11; disk 2 0 0 = 12; disk 2 1 0 = 1; count 1 = 0; "
                + "change 0 0 1 50 0 = 13; disk 2 1 0 = 1; sync = 1; disk 2 1 0 = 13; disk 2 1 3 = 50; disk 2 0 0 = 12; "
                + "disk 2 2 0 = 2; change 0 0 11 1 1 = 24; sync = 11; disk 2 0 0 = 24; disk 2 1 0 = 13; "
                + "change 1 0 1 60 0 = 25; sync = 1; disk 2 1 0 = 25; disk 2 1 1 = 1; disk 2 1 3 = 60; disk 2 2 0 = 14");
        // By numbers, over the wrap: 11, 12, 13 into records 11, 0, 1.
        for (int n = 0; n <= 3; n++) {
            run("change 0 0 10 1 1 = 10; checkpoint = 1; change 0 0 3 7 1 = 13; power " + n + "; sync = "
                    + (n < 3 ? LOST : 3) + "; disk 2 11 0 = " + (n > 0 ? 11 : 0) + "; disk 2 0 0 = " + (n > 1 ? 12 : 0)
                    + "; disk 2 1 0 = " + (n > 2 ? 13 : 1) + "; count 1 = 0");
        }
        run("sync = 0; count 2 = 0; power 0; sync = 0; count 3 = 0; change 0 0 1 1 0; power NONE; sync = 1; power 0; "
                + "sync = 0; count 3 = 0; count 2 = 1");
    }

    private static void cleanThoseThatAreDirty() {
        says("TO CLEAN some frames (those that are dirty): SYNC;");
        run("change 5 0 1 1 0; read 6 0; change 7 0 1 1 0 = 2; checkpoint = 2; disk 1 0 20..23 = 5; disk 1 1 20..23 = 7; "
                + "disk 1 2..3 16..23 = 0; disk 1 0..1 16 = 1 up; count 2 = 19; disk 0 6 16..19 = 0");
        // All that wait are logged, those of other pages, too; and they are logged first.
        String four = "change 5..8 0 1 1 0 = 1 up; ";
        run(four + "read 9 0 = 1; count 1 = 0; disk 2 1..4 0 = 1 up; count 2 = 12; frame 0 2 = 0; frame 1..3 2 = 1; sync = 0");
        run(four + "power 4; read 9 0 = LOST; disk 2 1..4 0 = 1 up; disk 1 0 16 = 0; disk 0 5 16 = 0");
        // Dirty, but none waits; none waits and none is dirty.
        run("change 5 0 1 1 0; sync = 1; checkpoint = 1; count 2 = 10; checkpoint = 0; count 2 = 11");
    }

    private static void besideBeforeHome() {
        says("then, one behind the other by frames, their pages are written beside, into slot 0, 1, ..; "
                + "then each is written at home; then they are not dirty.");
        int[] page = {9, 3, 7, 1};
        String four = "change 9 0 1 1 0; change 3 0 1 1 0; change 7 0 1 1 0; change 1 0 1 1 0 = 4; ";
        for (int n = 0; n <= 32; n++) {
            TwinWrites x = run(four + "power " + (4 + n) + "; checkpoint = LOST");
            for (int k = 0; k < 4; k++) {
                for (int s = 0; s < 4; s++) {
                    is(x, "disk 1 " + k + " " + (16 + s), 4 * k + s < n ? k + 1 : 0);
                    is(x, "disk 1 " + k + " " + (20 + s), 4 * k + s < n ? page[k] : 0);
                    is(x, "disk 0 " + page[k] + " " + (16 + s), 16 + 4 * k + s < n ? k + 1 : 0);
                }
            }
            is(x, "count 4", n == 32 ? 4 : 0);
        }
        run(four + "frame 0..3 2 = 1; checkpoint = 4; frame 0..3 2 = 0; frame 0..3 1 = 1 up; checkpoint = 0");
    }

    private static void oneAloneIntoSlot0() {
        says("(One alone: into slot 0.)");
        run("read 5..7 0; change 8 0 1 1 0 = 1; checkpoint = 1; disk 1 0 20..23 = 8; disk 1 0 16..19 = 1; "
                + "disk 1 1..3 16..23 = 0");
        run("read 5..6 0; change 7 0 1 1 0 = 1; read 8 0; read 5..6 0; read 9 0; frame 2 0 = 9; disk 1 0 20..23 = 7; "
                + "disk 1 0 16..19 = 1; disk 1 1..3 16..23 = 0");
        // Others are dirty, too, but the one that gives way is cleaned alone.
        run("change 5..8 0 1 1 0; read 5 0; read 9 0; frame 1 0 = 9; disk 1 0 20..23 = 6; disk 1 1..3 16..23 = 0; "
                + "frame 0 2 = 1; frame 2..3 2 = 1; count 4 = 1");
    }

    private static void markIsWrittenLast() {
        says("A CHECKPOINT: all dirty frames are cleaned; then the MARK is written: the number of the next change.");
        run("checkpoint = 0; count 2 = 1; disk 3 0 0 = 1; power 0; checkpoint = LOST; count 2 = 1");
        run("change 0 0 12 1 1; checkpoint = 1; disk 3 0 0 = 13; change 0 0 1 1 1 = 13; sync = 1; disk 3 0 0 = 13; "
                + "checkpoint = 1; disk 3 0 0 = 14");
        run("change 4 0 1 1 0; power 9; checkpoint = LOST; disk 3 0 0 = 1; disk 0 4 16..19 = 1");
        run("change 4 0 1 1 0; power 10; checkpoint = 1; disk 3 0 0 = 2; checkpoint = LOST; disk 3 0 0 = 2");
    }

    private static void roomToTheLastRecord() {
        says("The log has ROOM for n changes if the next number and n together are not above the MARK "
                + "(as it is on the disk) and 12 together.");
        for (int n = 1; n <= 11; n++) {
            String begun = "change 0 0 " + n + " 1 1 = " + n + "; count 6 = " + (12 - n) + "; ";
            run(begun + "change 0 0 " + (12 - n) + " 1 1 = 12; count 6 = 0; count 2 = 0; disk 3 0 0 = 1");
            run(begun + "change 0 0 " + (13 - n) + " 1 1 = 13; count 6 = " + (n - 1) + "; count 2 = " + (n + 9)
                    + "; disk 3 0 0 = " + (n + 1));
        }
        // Neither a sync makes room, nor the cleaning of a frame, nor a mark that was not written.
        run("change 5 0 12 1 1; count 6 = 0; sync = 12; count 6 = 0; read 6..9 0; count 4 = 1; count 6 = 0; checkpoint = 0; "
                + "count 6 = 12");
        run("change 0 0 12 1 1; power 20; checkpoint = LOST; recover = 12; count 6 = 0; change 0 0 1 5 0 = 13; "
                + "disk 3 0 0 = 13; count 6 = 11");
    }

    // Terms: power.

    private static void nthSector() {
        says("may be set to go at the n-th sector that is written from then on (0: the next one): that is not written;");
        for (int n = 0; n < 12; n++) {
            TwinWrites x = run("change 0 0 12 1 1; power " + n + "; sync = LOST; count 2 = " + n);
            for (int k = 1; k <= 12; k++) {
                is(x, "disk 2 " + k % 12 + " 0", k <= n ? k : 0);
            }
        }
        run("change 0 0 12 1 1; power 12; sync = 12; count 3 = 0; count 2 = 12; checkpoint = LOST; count 2 = 12");
        // From then on, not from the first on; and what writes nothing is no sector.
        run("change 0 0 3 1 1; sync = 3; power 1; change 0 0 2 1 1; sync = LOST; count 2 = 4; disk 2 4 0 = 4; disk 2 5 0 = 0");
        run("power 0; read 0..3 0 = 1; read 4 0 = 1; sync = 0; change 4 0 1 1 0 = 1; disk 3 0 0; frame 0 0; count 3 = 0; "
                + "sync = LOST; count 3 = 1");
    }

    private static void allIsGone() {
        says("all in memory is gone, no power is set, the call answers LOST, and all is DOWN.");
        String four = "change 0..3 0 1 5 0 = 1 up; read 1 0; ";
        for (String lost : new String[] {
            "change 1 0 12 1 1; power 5; change 2 0 1 5 0 = LOST",
            four + "power 2; change 4 0 1 5 0 = LOST",
            four + "power 2; read 4 0 = LOST",
            four + "power 1; sync = LOST",
            four + "power 1; checkpoint = LOST",
            four + "power 36; checkpoint = LOST",
            "change 6 0 1 8 0; power 6; checkpoint = LOST; power 1; recover = LOST",
            FIVE + "sync = 1; cut = 0; power 3; recover = LOST"}) {
            run(lost + "; count 3 = 1; count 0..1 = 0; frame 0..3 0 = NONE; frame 0..3 1..18 = 0; sync = STATE; recover; "
                    + "count 3 = 0; change 0..4 0 12 1 1; checkpoint = 1; count 3 = 0");
        }
    }

    private static void noneOrOneHomeIsTorn() {
        says("TO RECOVER: first each page of which home is not whole, by numbers, is written at home from beside:");
        run("cut = 0; recover = 0; count 2 = 0; count 5 = 0");
        run("change 0..11 0 1 7 0; sync; cut; recover = 12; count 5 = 0");
        // First: what is brought from home then is whole.
        run("change 6 0 1 8 0; change 6 15 1 9 0 = 2; power 7; checkpoint = LOST; recover = 2; frame 0 0 = 6; frame 0 1 = 2; "
                + "frame 0 2 = 0; frame 0 3 = 8; frame 0 18 = 9");
        for (int page : new int[] {0, 1, 10, 11}) {
            String home = "disk 0 " + page + " ";
            run("change " + page + " 0 1 8 0; power 7; checkpoint = LOST; " + home + "17 = 1; " + home + "18 = 0; recover = 1; "
                    + "count 5 = 1; count 2 = 11; " + home + "16..19 = 1; " + home + "0 = 8; " + home + "1..15 = 0");
            // From sector 0 on, as any page is written.
            run("change " + page + " 0 1 8 0; power 6; checkpoint = LOST; power 2; recover = LOST; " + home + "16..17 = 1; "
                    + home + "18..19 = 0");
        }
    }

    private static void greatestStamp() {
        says("from the whole slot with that page and the greatest stamp.");
        // Page 6 as of change 2 in slot 1, as of change 3 in slot 0.
        run("change 0 0 1 1 0; change 6 0 1 1 0; checkpoint = 2; change 6 0 1 20 0 = 3; power 6; checkpoint = LOST; "
                + "disk 1 0..1 20..23 = 6; disk 1 1 16..19 = 2; recover = 3; disk 0 6 16..19 = 3; disk 0 6 0 = 20");
        // Page 9 as of change 1 in slot 0, as of change 6 in slot 2.
        run(FIVE + "change 9 1 1 60 0; power 14; checkpoint = LOST; power 6; recover = LOST; disk 1 2 16..19 = 6; "
                + "disk 1 0 16..19 = 1; disk 0 9 19 = 0; recover = 6; disk 0 9 16..19 = 6; disk 0 9 1 = 60");
        // From each of the slots.
        for (int k = 0; k < 4; k++) {
            String home = "disk 0 " + (5 + k) + " ";
            run("change 5 0 1 60 0; change 6 0 1 61 0; change 7 0 1 62 0; change 8 0 1 63 0; power " + (4 + 16 + 4 * k + 1)
                    + "; checkpoint = LOST; " + home + "19 = 0; recover = 4; count 5 = 1; " + home + "16..19 = " + (k + 1) + "; "
                    + home + "0 = " + (60 + k));
        }
        // Another page has the greatest stamp of all, in slot 1 or in slot 0.
        run("change 8 0 1 1 0; change 2 0 1 2 0; power 11; checkpoint = LOST; recover = 2; count 5 = 1; disk 0 8 0 = 1; "
                + "disk 0 8 16..19 = 1; disk 0 2 16..19 = 0");
        run("change 8 0 1 1 0; change 2 0 1 2 0; change 8 0 1 3 0; power 16; checkpoint = LOST; recover = 3; count 5 = 1; "
                + "disk 0 2 0 = 2; disk 0 2 16..19 = 2");
        // Slots 1 to 3 are page 0's from the first on, whole, with stamp 0.
        run("change 0 0 1 20 0; power 6; checkpoint = LOST; recover = 1; count 5 = 1; disk 0 0 0 = 20; disk 0 0 16..19 = 1");
    }

    private static void logFromTheMarkOn() {
        says("Then the log is gone through from the MARK on: as long as record n modulo 12 has the number n "
                + "(page and word as they are told):");
        run("cut = 0; recover = 0; frame 0..3 0 = NONE");
        // Behind the mark: not gone through, so that no page is brought.
        run("change 3 0 12 1 1; checkpoint = 1; cut = 0; recover = 12; frame 0..3 0 = NONE; count 6 = 12");
        // All 12, and no more: record MARK modulo 12 has the MARK's own number.
        run("change 3 0 12 1 1; sync = 12; cut = 0; recover = 12; frame 0 0 = 3; frame 1 0 = NONE; frame 0 3..14 = 1 up; "
                + "frame 0 1 = 12; count 6 = 0");
        run("change 3 0 5 1 1; checkpoint = 1; change 3 4 12 31 1 = 17; sync = 12; cut = 0; recover = 17; "
                + "frame 0 3..6 = 1 up; frame 0 7..18 = 31 up; count 6 = 0");
        // A record with the number of 12 before ends it.
        run("change 3 0 12 1 1; checkpoint = 1; change 4 0 5 1 1 = 17; sync = 5; cut = 0; recover = 17; frame 0 0 = 4; "
                + "frame 0 1 = 17; frame 0 3..7 = 1 up; frame 1 0 = NONE; count 6 = 7");
        run("change 0 15 1 -1 0; change 11 0 1 -2 0; change 11 15 1 -3 0; sync = 3; cut = 0; recover = 3; frame 0 0 = 0; "
                + "frame 0 18 = -1; frame 1 0 = 11; frame 1 3 = -2; frame 1 18 = -3; frame 0..1 2 = 1; frame 0 3 = 0");
    }

    private static void stampBelow() {
        says("if the page's stamp (it is brought) is below n, the change is done: word, stamp, DIRTY.");
        run("change 3 0 1 5 0; sync = 1; cut = 0; recover = 1; frame 0 0 = 3; frame 0 1 = 1; frame 0 2 = 1; frame 0 3 = 5; "
                + "count 1 = 0");
        run("change 3 0 1 5 0; power 9; checkpoint = LOST; recover = 1; frame 0 0 = 3; frame 0 1 = 1; frame 0 2 = 0; "
                + "frame 0 3 = 5; count 1 = 0");
        run("change 3 0 1 5 0; change 3 0 1 6 0; power 10; checkpoint = LOST; recover = 2; frame 0 0 = 3; frame 0 1 = 2; "
                + "frame 0 2 = 0; frame 0 3 = 6");
        // Home has changes 1 and 2 of page 5, but not change 6.
        run("change 5 0 2 10 1; change 6..8 0 1 1 0; read 9 0; frame 0 0 = 9; change 5 0 1 30 0 = 6; sync = 1; cut = 0; "
                + "disk 0 5 16..19 = 2; recover = 6; frame 0 0 = 5; frame 0 1 = 6; frame 0 2 = 1; frame 0 3 = 30; frame 0 4 = 11");
    }

    private static void frameCleanedInRecovery() {
        says("(A frame may be cleaned for it, as above.)");
        run(FIVE + "sync = 1; cut = 0; count 2 = 13; recover = 5; count 2 = 21; count 4 = 2; frame 0 0 = 4; "
                + "frame 1..3 0 = 1 up; disk 1 0 20..23 = 9; disk 1 0 16..19 = 1; disk 0 9 16..19 = 1; disk 0 9 0 = 50; "
                + "frame 0 2 = 1; frame 1 2 = 0; frame 2..3 2 = 1; disk 3 0 0 = 1");
    }

    private static void firstNumberNotThere() {
        says("The next change has the first number that was not there.");
        for (int n = 0; n <= 3; n++) {
            run("change 3 0 3 1 1 = 3; power " + n + "; sync; cut; recover = " + n + "; count 0 = " + n
                    + "; change 5 0 1 1 0 = " + (n + 1));
            run("change 3 0 12 1 1; checkpoint = 1; change 3 0 3 1 1 = 15; power " + n + "; sync; cut; recover = " + (12 + n)
                    + "; change 5 0 1 1 0 = " + (13 + n));
        }
        run("change 3 0 12 1 1; sync = 12; cut = 0; recover = 12; change 3 0 1 1 0 = 13; disk 3 0 0 = 13");
    }

    private static void powerGoesInRecovery() {
        says("The power may go in all this, too; then all is DOWN, as before.");
        // It mends page 2 (4 sectors), and cleans page 9 (8 sectors).
        for (int n = 0; n <= 12; n++) {
            TwinWrites x = run(FIVE + "power 18; checkpoint = LOST; disk 0 2 16 = 3; disk 0 2 17 = 0; power " + n);
            go(x, "recover = " + (n < 12 ? LOST : 5) + "; count 2 = " + (12 + 18 + n) + "; count 3 = " + (n < 12 ? 1 : 0));
            if (n < 12) {
                go(x, "count 0..1 = 0; frame 0..3 0 = NONE; frame 0..3 1..18 = 0; count 6 = 0; recover = 5");
            }
            go(x, "power NONE; disk 0 2 16..19 = 3");
            int[] pages = {9, 1, 2, 3, 4};
            for (int i = 0; i < 5; i++) {
                go(x, "read " + pages[i] + " 0 = 1; got = " + (50 + i));
            }
        }
    }

    // Terms: exceptions.

    private static void namedFirst() {
        says("Methods throw what their comments name, the one named first when several would do.");
        run("cut = 0; change 12 0 1 5 0 = INDEX; change 0 16 1 5 0 = INDEX; change 0 0 0 5 0 = INDEX; "
                + "change 0 15 2 5 0 = INDEX; change -1 -1 -1 5 0 = INDEX; read 12 0 = INDEX; read 0 16 = INDEX; "
                + "read -1 -1 = INDEX; change 0 0 1 5 0 = STATE; change 0 0 13 5 0 = STATE; read 0 0 = STATE");
    }

    private static void noSuchThing() {
        says("IndexOutOfBoundsException: there is no such page, word, sector, slot, frame, record, what.");
        TwinWrites x = new TwinWrites();
        for (String call : INDEX_CALLS) {
            is(x, call, INDEX);
        }
        go(x, "cut = 0");
        for (String call : INDEX_CALLS) {
            is(x, call, INDEX);
        }
        // The last ones that there are.
        run("change 11 15 1 5 0 = 1; read 11 15 = 1; disk 0 11 15 = 0; disk 0 11 19 = 0; disk 1 3 15 = 0; disk 1 3 23 = 0; "
                + "disk 2 11 3 = 0; disk 3 0 0 = 1; frame 3 18 = 0; count 6 = 11; power 10000 = 0");
    }

    private static final String[] INDEX_CALLS = {
        "change -1 0 1 5 0", "change 12 0 1 5 0", "change LEAST 0 1 5 0", "change MOST 0 1 5 0",
        "change 0 -1 1 5 0", "change 0 -1 2 5 0", "change 0 16 1 5 0", "change 0 LEAST 1 5 0", "change 0 MOST 1 5 0",
        "change 0 0 0 5 0", "change 0 0 -1 5 0", "change 0 0 LEAST 5 0", "change 0 0 17 5 0", "change 0 15 2 5 0",
        "change 0 1 16 5 0", "change 0 1 MOST 5 0", "change 0 MOST MOST 5 0", "change 0 LEAST LEAST 5 0",
        "change 0 16 0 5 0", "change 11 15 MOST 5 0",
        "read -1 0", "read 12 0", "read LEAST 0", "read MOST 0", "read 0 -1", "read 0 16", "read 0 LEAST", "read 0 MOST",
        "power -2", "power 10001", "power LEAST", "power MOST",
        "disk -1 0 0", "disk 4 0 0", "disk LEAST 0 0", "disk MOST 0 0",
        "disk 0 -1 0", "disk 0 12 0", "disk 0 LEAST 0", "disk 0 MOST 0",
        "disk 0 0 -1", "disk 0 0 20", "disk 0 11 23", "disk 0 0 LEAST", "disk 0 0 MOST",
        "disk 1 -1 0", "disk 1 4 0", "disk 1 11 0", "disk 1 LEAST 0", "disk 1 MOST 0",
        "disk 1 0 -1", "disk 1 3 24", "disk 1 0 LEAST", "disk 1 0 MOST",
        "disk 2 -1 0", "disk 2 12 0", "disk 2 LEAST 0", "disk 2 MOST 0",
        "disk 2 0 -1", "disk 2 11 4", "disk 2 0 LEAST", "disk 2 0 MOST",
        "disk 3 -1 0", "disk 3 1 0", "disk 3 0 -1", "disk 3 0 1", "disk 3 MOST LEAST",
        "frame -1 0", "frame 4 0", "frame LEAST 0", "frame MOST 0",
        "frame 0 -1", "frame 0 19", "frame 3 19", "frame 0 LEAST", "frame 0 MOST",
        "count -1", "count 7", "count LEAST", "count MOST"};

    private static final String[] DOWN_CALLS = {
        "change 0 0 1 5 0", "change 11 15 1 5 0", "change 0 0 12 5 0", "change 0 0 16 5 0", "read 0 0", "read 11 15",
        "sync", "checkpoint", "cut"};

    private static void allIsDown() {
        says("IllegalStateException: all is DOWN.");
        for (String down : new String[] {"cut = 0", "power 0; checkpoint = LOST", "power 0; change 0 0 13 1 1 = LOST"}) {
            TwinWrites x = run(down);
            for (String call : DOWN_CALLS) {
                is(x, call, STATE);
            }
            go(x, "got = 0; power 5 = 0; power NONE = 0; disk 3 0 0 = 1; frame 0 0 = NONE; count 3 = 1; recover = 0; "
                    + "change 0 0 1 5 0 = 1; read 0 0 = 1; sync = 1; checkpoint = 1; cut = 0");
        }
    }

    private static void throwingChangesNothing() {
        says("A call that throws changes nothing.");
        // What is not seen, the power that is set and the order in which pages were asked for, is
        // seen by what later calls do.
        String up = BUSY + "power 11; ";
        String thenUp = "; read 9 0; change 10 0 1 40 0; count 2; recover; read 8 4; read 6 2; checkpoint";
        String down = BUSY + "power 23; checkpoint = LOST; power 6; ";
        String thenDown = "; recover; read 9 0; checkpoint; recover; read 6 2";
        for (String call : INDEX_CALLS) {
            thrownIsNothing(up, call + " = INDEX", thenUp);
            thrownIsNothing(down, call + " = INDEX", thenDown);
        }
        thrownIsNothing(up, "recover = STATE", thenUp);
        for (String call : DOWN_CALLS) {
            thrownIsNothing(down, call + " = STATE", thenDown);
        }
    }

    private static void thrownIsNothing(String before, String call, String then) {
        same(seen(before + call), seen(before + "count 0"));
        same(seen(before + call + then), seen(before + "count 0" + then));
    }

    // Promise 1.

    private static void nothingInMemory() {
        says("Nothing in memory, the disk as at first, the power stays.");
        run("frame 0..3 0 = NONE; frame 0..3 1..18 = 0; count 0..5 = 0; count 6 = 12; got = 0; recover = STATE");
        run("disk 0 0..11 0..19 = 0");
        run("disk 1 0..3 0..23 = 0; disk 2 0..11 0..3 = 0; disk 3 0 0 = 1");
        // Nothing of another object, either.
        TwinWrites other = run(FIVE + "checkpoint = 4; read 9 0; got = 50; power 0");
        run("frame 0..3 0 = NONE; count 0..5 = 0; got = 0; disk 0 9 0 = 0; disk 3 0 0 = 1; checkpoint = 0");
        go(other, "checkpoint = LOST");
    }

    private static void powerStays() {
        says("the power stays.");
        // Each change has its checkpoint, of 21 sectors, but the first: more than could ever be set.
        TwinWrites x = new TwinWrites();
        for (int i = 1; i <= 510; i++) {
            is(x, "change " + i % 12 + " 0 12 1 1", 12 * i);
        }
        go(x, "count 2 = " + 509 * 21 + "; count 3 = 0");
    }

    // Promise 2.

    private static void wordsWithSteps() {
        says("Words from one on of a page are changed, n of them, one change each, to word, word + step, ..: "
                + "the number of the last change.");
        run("change 3 0 1 7 100 = 1; frame 0 3 = 7; frame 0 4..18 = 0; count 1 = 1");
        run("change 3 15 1 7 100 = 1; frame 0 18 = 7; frame 0 3..17 = 0");
        run("change 3 4 12 7 1 = 12; frame 0 3..6 = 0; frame 0 7..18 = 7 up; frame 0 1 = 12; count 1 = 12");
        run("change 3 3 4 10 -4 = 4; frame 0 6 = 10; frame 0 7 = 6; frame 0 8 = 2; frame 0 9 = -2; frame 0 10 = 0; frame 0 5 = 0");
        run("change 3 2 3 9 0 = 3; frame 0 4 = 0; frame 0 5..7 = 9; frame 0 8 = 0");
        // Ints wrap around.
        run("change 3 14 2 MOST 1 = 2; frame 0 17 = MOST; frame 0 18 = LEAST; sync = 2; disk 2 1 3 = MOST; disk 2 2 3 = LEAST; "
                + "disk 2 1..2 2 = 14 up");
        run("change 3 0 2 LEAST -1 = 2; frame 0 3 = LEAST; frame 0 4 = MOST");
        run("change 3 0 3 0 MOST = 3; frame 0 3 = 0; frame 0 4 = MOST; frame 0 5 = -2");
        run("change 3 0 3 5 LEAST = 3; frame 0 3 = 5; frame 0 4 = -2147483643; frame 0 5 = 5");
        // NONE, FULL and LOST are words like any other.
        run("change 3 0 3 -1 -1 = 3; frame 0 3 = -1; frame 0 4 = -2; frame 0 5 = -3; read 3 2 = 1; got = -3");
    }

    private static void checkpointFirst() {
        says("If the log has no room for them, a CHECKPOINT is done first;");
        run("change 5 0 12 1 1 = 12; count 2 = 0; change 5 0 1 1 1 = 13; count 2 = 21; disk 3 0 0 = 13; count 1 = 1");
        run("change 5 0 7 1 1 = 7; change 5 0 5 1 1 = 12; count 2 = 0");
        run("change 5 0 7 1 1 = 7; change 5 0 6 1 1 = 13; count 2 = 16; disk 3 0 0 = 8; count 1 = 6");
        // First: all four pages are still in their frames then, and the page comes into a clean one.
        run("change 5..8 0 3 1 1; count 0 = 12; change 9 0 1 5 0 = 13; count 2 = 45; "
                + "count 4 = 4; disk 1 0..3 20 = 5 up; frame 0 0 = 9; frame 1..3 0 = 6 up; frame 1..3 2 = 0; frame 0 2 = 1");
        // With room, though, a frame may be cleaned, but the mark stays.
        run("change 5..8 0 2 1 1; change 9 0 4 5 0 = 12; count 2 = 16; disk 3 0 0 = 1; count 4 = 1");
    }

    private static void fullBehindTheCheckpoint() {
        says("FULL, if there is none then (all else stays as the checkpoint left it);");
        run("change 3 0 12 1 1 = 12; count 2 = 0");
        run("change 3 4 12 1 1 = 12; count 2 = 0");
        for (int n = 13; n <= 16; n++) {
            run("change 3 0 " + n + " 1 1 = FULL; count 2 = 1; frame 0 0 = NONE; count 0..1 = 0; count 6 = 12; count 3 = 0");
            String full = "change 7 0 " + n + " 1 1 = FULL";
            String then = "; read 9 0; change 10 0 12 40 0; read 8 4";
            same(seen(BUSY + full), seen(BUSY + "checkpoint = 3"));
            same(seen(BUSY + full + then), seen(BUSY + "checkpoint = 3" + then));
        }
        run("power 0; change 3 0 13 1 1 = LOST; count 3 = 1");
        run("power 1; change 3 0 13 1 1 = FULL; change 3 0 13 1 1 = LOST");
        run("change 3 0 12 1 1; change 3 3 13 1 1 = FULL; count 0 = 12; count 1 = 0; frame 0 2 = 0; frame 0 1 = 12; "
                + "frame 0 3..14 = 1 up; count 2 = 21; change 3 0 12 1 1 = 24; count 2 = 21");
    }

    private static void lostChanges() {
        says("LOST (of the changes, those that were done before are gone, too, but what was logged).");
        // Changes 1 to 3 were logged; the lost checkpoint logs n more of the 9 that wait.
        for (int n = 0; n <= 9; n++) {
            TwinWrites x = run("change 2 0 3 1 1 = 3; sync = 3; change 2 3 9 4 1 = 12; power " + n
                    + "; change 2 12 1 99 0 = LOST; recover = " + (3 + n) + "; count 0 = " + (3 + n));
            for (int i = 0; i < 16; i++) {
                is(x, "frame 0 " + (3 + i), i < 3 + n ? i + 1 : 0);
            }
        }
        // In the cleaning for the page.
        for (int n = 0; n <= 11; n++) {
            int logged = Math.min(n, 4);
            run("change 5..8 0 1 7 0 = 1 up; power " + n + "; change 9 0 3 1 1 = LOST; recover = " + logged
                    + "; read 9 0 = 1; got = 0; change 9 0 1 1 0 = " + (logged + 1));
        }
        run("change 5..8 0 1 7 0 = 1 up; power 12; change 9 0 3 1 1 = 7; count 3 = 0; sync = LOST");
    }

    private static void countOfWordsWrong() {
        says("IndexOutOfBoundsException: also n below 1, or the last word;");
        run("change 0 0 0 5 0 = INDEX; change 0 0 -1 5 0 = INDEX; change 0 0 LEAST 5 0 = INDEX; change 0 15 0 5 0 = INDEX; "
                + "change 0 0 1 5 0 = 1");
        for (int from = 0; from < 16; from++) {
            int last = 16 - from;
            run("change 0 " + from + " " + last + " 5 0 = " + (last > 12 ? FULL : last));
            run("change 0 " + from + " " + (last + 1) + " 5 0 = INDEX; change 0 " + from + " MOST 5 0 = INDEX; count 2 = 0; "
                    + "frame 0 0 = NONE; count 0 = 0");
        }
        run("change 0 16 1 5 0 = INDEX; change 0 MOST 1 5 0 = INDEX; change 0 2147483640 16 5 0 = INDEX; change 0 -1 17 5 0 = INDEX; "
                + "change 0 -5 6 5 0 = INDEX; change 0 LEAST MOST 5 0 = INDEX; count 0 = 0");
    }

    // Promises 3 and 4.

    private static void readFirstAndLast() {
        says("A word of a page (it is brought); told by got(): 1, or LOST.");
        run("change 11 4 12 31 1; read 11 15 = 1; got = 42; read 11 0 = 1; got = 0; read 11 4 = 1; got = 31; "
                + "read 0 0 = 1; got = 0; frame 1 0 = 0; read 0 15 = 1; got = 0; frame 2 0 = NONE; count 2 = 0");
        run("change 5..8 0 1 7 0; power 11; read 9 0 = LOST; count 3 = 1; frame 0 0 = NONE");
        run("change 5..8 0 1 7 0; power 12; read 9 0 = 1; count 3 = 0; frame 0 0 = 9");
        run("power 0; read 9 0 = 1; read 9 0 = 1; count 3 = 0");
    }

    private static void readRefused() {
        says("`int read(int page, int i) throws IndexOutOfBoundsException, IllegalStateException`");
        String wrong = "read -1 0 = INDEX; read 12 0 = INDEX; read 0 -1 = INDEX; read 0 16 = INDEX; read LEAST 0 = INDEX; "
                + "read MOST 0 = INDEX; read 0 LEAST = INDEX; read 0 MOST = INDEX; frame 0 0 = NONE; ";
        run(wrong + "cut = 0; " + wrong + "read 0 0 = STATE; frame 0 0 = NONE; recover = 0; " + wrong);
    }

    private static void gotOfTheLatestRead() {
        says("The word that the latest read() got; 0 if it was LOST, or before one.");
        run("got = 0; change 5 0 1 7 0; got = 0; read 5 0 = 1; got = 7; got = 7; read 5 1 = 1; got = 0; read 5 0; "
                + "change 5 0 1 8 0; got = 7; read 5 16 = INDEX; got = 7; sync; checkpoint; got = 7; cut; got = 7; "
                + "read 5 0 = STATE; got = 7; recover; got = 7; read 5 0 = 1; got = 8");
        run("change 5..8 0 1 7 0; read 5 0 = 1; got = 7; power 0; read 6..8 0 = 1; read 9 0 = LOST; got = 0; recover; got = 0; "
                + "read 9 0 = 1; got = 0");
    }

    // Promises 5 and 6.

    private static void howManyWereWritten() {
        says("TO SYNC: how many changes were written; LOST.");
        run("sync = 0; count 2 = 0");
        for (int n = 1; n <= 12; n++) {
            run("change 5 0 " + n + " 7 0; sync = " + n + "; sync = 0; count 2 = " + n);
            run("change 5 0 " + n + " 7 0; power " + n + "; sync = " + n + "; count 3 = 0");
            run("change 5 0 " + n + " 7 0; power " + (n - 1) + "; sync = LOST; count 3 = 1");
        }
        run("change 5 0 12 7 0; change 5 0 1 8 0 = 13; sync = 1");
    }

    private static void syncRefused() {
        says("`int sync() throws IllegalStateException`");
        run("change 5 0 1 7 0; cut = 1; sync = STATE; count 2 = 0; recover = 0; sync = 0");
        run("change 5 0 1 7 0; power 0; sync = LOST; sync = STATE; recover = 0; sync = 0");
    }

    private static void howManyWereCleaned() {
        says("A CHECKPOINT: how many pages were cleaned; LOST.");
        for (int n = 0; n <= 4; n++) {
            String dirty = n == 0 ? "read 4 0; " : "change 5.." + (4 + n) + " 0 1 7 0; ";
            run(dirty + "checkpoint = " + n + "; count 2 = " + (9 * n + 1) + "; checkpoint = 0; disk 3 0 0 = " + (n + 1));
            run(dirty + "power " + (9 * n + 1) + "; checkpoint = " + n + "; count 3 = 0");
            run(dirty + "power " + 9 * n + "; checkpoint = LOST; count 3 = 1; disk 3 0 0 = 1");
        }
        // Twelve pages changed: eight were cleaned before, four are cleaned now.
        run("change 0..11 0 1 7 0 = 1 up; checkpoint = 4; count 4 = 12");
    }

    private static void checkpointRefused() {
        says("`int checkpoint() throws IllegalStateException`");
        run("cut = 0; checkpoint = STATE; count 2 = 0; recover = 0; checkpoint = 0");
        run("power 0; checkpoint = LOST; checkpoint = STATE; count 2 = 0; recover = 0; checkpoint = 0");
    }

    // Promises 7 to 9.

    private static void powerNone() {
        says("The power goes at sector n from now on; NONE: it stays.");
        run("power 0; power NONE; checkpoint = 0; checkpoint = 0; count 3 = 0");
        run("power 0; power 1; checkpoint = 0; checkpoint = LOST");
        run("power 5; power 0; checkpoint = LOST");
        run("power 2; checkpoint = 0; power 2; checkpoint = 0; checkpoint = 0; checkpoint = LOST; count 2 = 3");
    }

    private static void powerWhileDown() {
        says("(Also while DOWN.)");
        run("cut = 0; power 1 = 0; recover = 0; checkpoint = 0; checkpoint = LOST");
        run("cut = 0; power 0; power NONE; recover = 0; checkpoint = 0; checkpoint = 0");
        run("change 6 0 1 8 0; power 6; checkpoint = LOST; power 0 = 0; recover = LOST; recover = 1; count 5 = 1");
        run("change 6 0 1 8 0; power 6; checkpoint = LOST; power 4 = 0; recover = 1; checkpoint = LOST");
        run("cut = 0; power -2 = INDEX; power 10001 = INDEX; recover = 0; checkpoint = 0");
    }

    private static void powerRange() {
        says("IndexOutOfBoundsException: n is not NONE .. 10000.");
        run("power NONE = 0; power 0 = 0; power 10000 = 0; power -2 = INDEX; power 10001 = INDEX; power LEAST = INDEX; "
                + "power MOST = INDEX");
        run("power 1; power 10001 = INDEX; power -2 = INDEX; power FULL = INDEX; checkpoint = 0; checkpoint = LOST");
        // 10000 is the sector that it goes at, indeed: each change but the first has 21 before it.
        for (int n = 9999; n <= 10000; n++) {
            TwinWrites x = run("power " + n + " = 0");
            for (int i = 1; i <= n / 21 + 1; i++) {
                is(x, "change " + i % 12 + " 0 12 1 1", 12 * i);
            }
            go(x, "change 0 0 12 1 1 = LOST; count 2 = " + n);
        }
    }

    private static void howManyCount() {
        says("TO RECOVER: how many changes there are that count (the number of the last one); LOST.");
        run("cut = 0; recover = 0; count 0 = 0");
        run("change 5 0 1 7 0; sync; cut; recover = 1; count 0 = 1");
        run("change 5 0 12 7 0; sync; cut; recover = 12; cut = 0; recover = 12");
        // Those behind the mark count, too; those that only waited do not.
        run("change 5 0 12 7 0; checkpoint = 1; cut; recover = 12");
        run("change 5 0 12 7 0; checkpoint = 1; change 5 0 3 8 0 = 15; sync = 3; change 5 0 2 9 0 = 17; cut = 2; recover = 15");
        run("change 6 0 1 8 0; power 6; checkpoint = LOST; power 3; recover = LOST; count 0 = 0; recover = 1");
    }

    private static void recoverRefused() {
        says("IllegalStateException: all is not DOWN.");
        run("recover = STATE; change 5 0 1 7 0; recover = STATE; count 1 = 1; cut = 1; recover = 0; recover = STATE");
    }

    private static void howManyWaited() {
        says("The power goes now: all in memory is gone, no power is set, all is DOWN: how many changes waited.");
        run("cut = 0; count 3 = 1");
        for (int n = 1; n <= 12; n++) {
            run("change 5 0 " + n + " 7 0; cut = " + n + "; count 3 = 1; count 2 = 0; recover = 0");
        }
        run("change 5 0 3 7 0; sync = 3; change 6 0 2 7 0; read 7 0; power 0; cut = 2; count 0..1 = 0; count 3 = 1; "
                + "frame 0..3 0 = NONE; frame 0..3 1..18 = 0; count 2 = 3; recover = 3; checkpoint = 1; count 3 = 0");
        run("change 5 0 3 7 0; sync = 3; cut = 0");
    }

    private static void cutRefused() {
        says("`int cut() throws IllegalStateException`");
        run("cut = 0; cut = STATE; power 1; cut = STATE; recover = 0; checkpoint = 0; checkpoint = LOST; cut = STATE");
    }

    // Promises 10 and 11.

    private static void diskWhileDown() {
        says("Of the disk, also while DOWN:");
        String looks = "disk 0 9 0 = 50; disk 0 9 16..19 = 1; disk 1 2 0 = 50; disk 1 2 20..23 = 9; disk 2 5 0 = 5; disk 2 5 3 = 54; "
                + "disk 3 0 0 = 6";
        run(FIVE + "checkpoint = 4; " + looks + "; cut = 0; " + looks + "; disk 4 0 0 = INDEX; disk 0 12 0 = INDEX; recover = 5; "
                + looks);
    }

    private static void diskOfPlaces() {
        says("where = 0 home of page k, 1 slot k beside: i = 0 .. 15 a word, 16 + s the stamp of sector s, "
                + "20 + s (beside) its page number;");
        run("change 11 0 12 21 1; checkpoint = 1; change 11 12 4 33 1; checkpoint = 1; disk 0 11 0..15 = 21 up; "
                + "disk 0 11 16..19 = 16; disk 1 0 0..15 = 21 up; disk 1 0 16..19 = 16; disk 1 0 20..23 = 11; "
                + "disk 0 11 20..23 = INDEX; disk 1 0 24 = INDEX; disk 0 11 -1 = INDEX; disk 1 0 -1 = INDEX; "
                + "disk 0 12 0 = INDEX; disk 1 4 0 = INDEX; disk 0 -1 0 = INDEX; disk 1 -1 0 = INDEX; disk 0 10 0 = 0; disk 1 3 23 = 0");
        // Each sector has a stamp and a number of its own, as a torn page shows.
        run("change 11 0 1 1 0; checkpoint = 1; change 10 0 1 2 0; power 3; checkpoint = LOST; disk 1 0 16..17 = 2; "
                + "disk 1 0 18..19 = 1; disk 1 0 20..21 = 10; disk 1 0 22..23 = 11");
    }

    private static void diskOfTheLog() {
        says("2 record k of the log: i = 0 its number, 1 the page, 2 which word, 3 the word;");
        run("change 11 15 1 -9 0; sync = 1; disk 2 1 0 = 1; disk 2 1 1 = 11; disk 2 1 2 = 15; disk 2 1 3 = -9; disk 2 0 0..3 = 0; "
                + "disk 2 11 0..3 = 0; disk 2 1 -1 = INDEX; disk 2 1 4 = INDEX; disk 2 -1 0 = INDEX; disk 2 12 0 = INDEX");
    }

    private static void diskOfTheMark() {
        says("3 the MARK (k and i are 0).");
        run("disk 3 0 0 = 1; disk 3 1 0 = INDEX; disk 3 0 1 = INDEX; disk 3 -1 0 = INDEX; disk 3 0 -1 = INDEX; disk 3 1 1 = INDEX; "
                + "disk 4 0 0 = INDEX; disk -1 0 0 = INDEX; change 5 0 2 1 1; checkpoint = 1; disk 3 0 0 = 3");
    }

    private static void frameWithoutAPage() {
        says("what = 0 its page (NONE), 1 its stamp, 2 whether it is DIRTY (1), 3 + i word i (1 to 18: 0 without a page).");
        run("change 0 4 12 41 1; frame 0 0 = 0; frame 0 1 = 12; frame 0 2 = 1; frame 0 3..6 = 0; frame 0 7..18 = 41 up; "
                + "frame 1..3 0 = NONE; frame 1..3 1..18 = 0; checkpoint = 1; frame 0 2 = 0; cut = 0; frame 0..3 0 = NONE; "
                + "frame 0..3 1..18 = 0");
    }

    private static void frameRefused() {
        says("`int frame(int k, int what) throws IndexOutOfBoundsException`");
        String wrong = "frame -1 0 = INDEX; frame 4 0 = INDEX; frame 0 -1 = INDEX; frame 0 19 = INDEX; frame 3 19 = INDEX; "
                + "frame LEAST 0 = INDEX; frame MOST 0 = INDEX; frame 0 LEAST = INDEX; frame 0 MOST = INDEX; ";
        run(wrong + "frame 3 18 = 0; read 5 0; " + wrong + "cut = 0; " + wrong + "frame 3 18 = 0");
    }

    // Promise 12.

    private static void countOfChanges() {
        says("What = 0 the number of the last change (0: none; while DOWN 0),");
        run("count 0 = 0; change 5 0 12 1 1; count 0 = 12; change 5 0 13 1 1 = FULL; count 0 = 12; change 5 0 2 1 1; count 0 = 14; "
                + "cut = 2; count 0 = 0; recover = 12; count 0 = 12; power 0; checkpoint = LOST; count 0 = 0");
    }

    private static void countOfWaiting() {
        says("1 how many wait,");
        run("count 1 = 0; change 5 0 12 1 1; count 1 = 12; change 5 0 1 1 1; count 1 = 1; sync = 1; count 1 = 0; "
                + "change 5 0 3 1 1; count 1 = 3; power 1; sync = LOST; count 1 = 0; recover = 14; count 1 = 0");
    }

    private static void countOfSectors() {
        says("2 sectors written in all,");
        run("count 2 = 0; change 5 0 3 1 1; count 2 = 0; sync = 3; count 2 = 3; power 9; checkpoint = 1; count 2 = 12; "
                + "checkpoint = LOST; count 2 = 12; recover = 3; count 2 = 12; checkpoint = 0; count 2 = 13");
    }

    private static void countOfDown() {
        says("3 whether all is DOWN (1),");
        run("count 3 = 0; cut = 0; count 3 = 1; recover = 0; count 3 = 0; power 0; checkpoint = LOST; count 3 = 1");
    }

    private static void countOfCleaned() {
        says("4 pages that were cleaned in all (in cleanings that came to their end),");
        // Two pages: 2 records, 8 sectors beside, 8 at home; only then have they been cleaned.
        for (int n = 0; n <= 18; n++) {
            run("change 5..6 0 1 7 0; power " + n + "; checkpoint = LOST; count 4 = " + (n == 18 ? 2 : 0) + "; recover; count 4 = "
                    + (n == 18 ? 2 : 0));
        }
        for (int n = 0; n <= 12; n++) {
            run("change 5..8 0 1 7 0; power " + n + "; read 9 0; count 4 = " + (n == 12 ? 1 : 0));
        }
        run("change 5..8 0 1 7 0; read 9 0; count 4 = 1; checkpoint = 3; count 4 = 4; checkpoint = 0; count 4 = 4; cut = 0; count 4 = 4");
    }

    private static void countOfMended() {
        says("5 pages of which home was mended in all,");
        String torn = "change 6 0 1 8 0; power 6; checkpoint = LOST; count 5 = 0; ";
        for (int n = 0; n < 4; n++) {
            run(torn + "power " + n + "; recover = LOST; count 5 = 0; recover = 1; count 5 = 1");
        }
        run(torn + "power 4; recover = 1; count 5 = 1; cut = 0; recover = 1; count 5 = 1; change 7 0 1 8 0 = 2; power 6; "
                + "checkpoint = LOST; recover = 2; count 5 = 2");
    }

    private static void countOfRoom() {
        says("6 for how many changes the log has room now (0 while DOWN).");
        TwinWrites x = new TwinWrites();
        for (int n = 0; n < 12; n++) {
            go(x, "count 6 = " + (12 - n) + "; change 5 0 1 1 1 = " + (n + 1));
        }
        go(x, "count 6 = 0; cut = 12; count 6 = 0; recover = 0; count 6 = 12; change 5 0 4 1 1; sync = 4; count 6 = 8; "
                + "power 0; checkpoint = LOST; count 6 = 0; recover = 4; count 6 = 8; checkpoint = 1; count 6 = 12");
    }

    private static void countRefused() {
        says("`int count(int what) throws IndexOutOfBoundsException`");
        String wrong = "count -1 = INDEX; count 7 = INDEX; count LEAST = INDEX; count MOST = INDEX; ";
        run(wrong + "cut = 0; " + wrong + "count 6 = 0");
    }
}
