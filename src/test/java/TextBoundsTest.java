import java.util.ArrayList;
import java.util.List;

/**
 * Promises 46 to 50 and what 'Terms' say of a TEXT and its FAULTS, sentence by sentence where they name a bound: the tape
 * full and empty, every byte that there is, NUMBERS of 1 to 4 digits, the 24th and the 25th LINE, which FAULT is first.
 */
public final class TextBoundsTest {
    private static final Check CHECK = new Check();
    private static final String LINE = "thin 0 0 0 0 turn 0 hand 0;";

    public static void main(String[] args) {
        feed();
        fullTape();
        load();
        everyByte();
        blanks();
        numbers();
        lines();
        theEnd();
        firstAlongTheText();
        firstOfLines();
        leastOfOneToken();
        behindAFault();
        latestLoad();
        print();
        out();
        CHECK.end("TextBoundsTest");
    }

    private static void run(String name, String... lines) {
        Script.run(CHECK, name, lines);
    }

    private static void run(String name, List<String> lines) {
        Script.run(CHECK, name, lines.toArray(new String[0]));
    }

    /** A text with a FAULT, on a TABLE that stays as it was; so many RHOMBS are read without one. */
    private static void faulty(String text, int kind, int place) {
        run("FAULT " + kind + " at " + place + ": " + text, "lay(1, 500, 0, 0, 0, 7, 1) = 0", "load '" + text + "' ! 9", "fault(0) ~ " + kind, "fault(1) ~ " + place,
            "many(13) = 1", "rhomb(0, 1) = 7", "load(1) ! 1", "fault(0) ~ " + kind);
    }

    private static void fine(String text, int rhombs, String... behind) {
        List<String> lines = new ArrayList<>(List.of("lay(1, 500, 0, 0, 0, 7, 1) = 0", "load '" + text + "' = " + rhombs, "fault(0) ~ 0", "fault(1) ~ -1",
            "many(13) = " + rhombs, "load(1) ! 1"));
        lines.addAll(List.of(behind));
        run("no FAULT: " + text, lines);
    }

    private static String manyLines(int count) {
        StringBuilder text = new StringBuilder();
        for (int n = 0; n < count; n++) {
            text.append("thin ").append(3 * n).append(" 0 0 0 turn 0 hand 0;");
        }
        return text.toString();
    }

    private static List<String> feeds(int count) {
        List<String> lines = new ArrayList<>();
        for (int n = 1; n <= count; n++) {
            lines.add("feed(538976288, 538976288, 538976288, 538976288, 538976288) ~ " + 20 * n);
        }
        return lines;
    }

    private static void feed() {
        run("promise 46: the highest of each int first", "feed(1952999790, 540024880, 540024880, 544503154, 1847603232) ~ 20", "feed(1751215716, 540031776, 0, 0, 0) ~ 40",
            "load(28) = 1", "rhomb(0, 0) = 0", "rhomb(0, 1) = 0");
        // A byte of 128 and more, as the highest, a middle and the lowest one.
        run("promise 46: bytes of 128 and more", "feed(-1, 0, 0, 0, 0) ~ 20", "load(1) ! 9", "fault(0) ~ 1", "fault(1) ~ 0", "feed(538976511, 0, 0, 0, 0) ~ 20", "load(4) ! 9",
            "fault(0) ~ 1", "fault(1) ~ 3", "feed(547364896, 0, 0, 0, 0) ~ 20", "load(4) ! 9", "fault(0) ~ 1", "fault(1) ~ 1", "feed(-1608507360, 0, 0, 0, 0) ~ 20",
            "load(4) ! 9", "fault(0) ~ 1", "fault(1) ~ 0");
        // The last byte of the fifth int is byte 19.
        run("promise 46: twenty bytes", "feed(538976288, 538976288, 538976288, 538976288, 538976321) ~ 20", "load(20) ! 9", "fault(1) ~ 19",
            "feed(538976288, 538976288, 538976288, 538976288, 538976321) ~ 20", "load(19) = 0");
    }

    private static void fullTape() {
        List<String> lines = feeds(45);
        lines.addAll(List.of("feed(0, 0, 0, 0, 0) ~ -1", "feed(1, 2, 3, 4, 5) ~ -1", "load(901) ! 1", "feed(0, 0, 0, 0, 0) ~ -1", "load(900) = 0",
            "feed(538976288, 538976288, 538976288, 538976288, 538976288) ~ 20", "load(21) ! 1", "load(20) = 0"));
        run("promise 46: NONE if there would be more than 900", lines);
        lines = feeds(44);
        lines.addAll(List.of("feed(538976288, 538976288, 538976288, 538976288, 538976321) ~ 900", "feed(0, 0, 0, 0, 0) ~ -1", "load(900) ! 9", "fault(0) ~ 1", "fault(1) ~ 899"));
        run("promise 46: byte 899 is the last", lines);
        String all = manyLines(24);
        fine(all + " ".repeat(900 - all.length()), 24);
        fine(" ".repeat(900 - all.length()) + all, 24);
        fine("\n".repeat(900), 0);
        faulty(" ".repeat(900 - 27) + LINE.replace(';', ' '), 2, 900);
        faulty(" ".repeat(899) + "+", 1, 899);
    }

    private static void load() {
        run("promise 47: the first n bytes, the tape is empty then", "feed(0, 0, 0, 0, 0) ~ 20", "feed(0, 0, 0, 0, 0) ~ 40", "load(0) = 0", "load(1) ! 1",
            "feed(0, 0, 0, 0, 0) ~ 20", "load(20) ! 9", "load(1) ! 1", "feed(0, 0, 0, 0, 0) ~ 20", "load(19) ! 9", "load(1) ! 1", "load(0) = 0");
        run("promise 47: 1: n above what the tape has", "load(1) ! 1", "load(20) ! 1", "feed(538976288, 538976288, 538976288, 538976288, 538976288) ~ 20", "load(21) ! 1",
            "load(900) ! 1", "load(-1) ! 1", "load(20) = 0", "load(20) ! 1");
        run("promise 47: the TABLE is empty ahead of it", "lay(0, 0, 0, 0, 0, 0, 0) = 0", "load '" + LINE + "' = 1", "rhomb(0, 1) = 0", "many(13) = 1", "load '" + LINE + "' = 1",
            "load '' = 0", "many(13) = 0", "many(14) = 0", "lay(0, 0, 0, 0, 0, 3, 0) = 0", "load(0) = 0", "many(13) = 0");
        // What is on the tape behind the n bytes is no part of the text, not of its last TOKEN either.
        run("promise 47: bytes behind the n-th", "feed(1952999790, 540024880, 540024880, 544503154, 1847603232) ~ 20", "feed(1751215716, 540028731, 1094795585, 0, 0) ~ 40",
            "load(26) ! 9", "fault(0) ~ 2", "fault(1) ~ 26", "feed(1952999790, 540024880, 540024880, 544503154, 1847603232) ~ 20",
            "feed(1751215716, 540031809, 1094795585, 0, 0) ~ 40", "load(27) = 1", "fault(0) ~ 0");
    }

    /** Alone, and at the end of a LINE ahead of its ; */
    private static void everyByte() {
        for (char sign = 0; sign < 256; sign++) {
            boolean blank = sign == 10 || sign == 32;
            boolean letter = sign >= 97 && sign <= 122;
            boolean digit = sign >= 48 && sign <= 57;
            boolean token = letter || digit || sign == 45 || sign == 59;
            String line = LINE.substring(0, 26) + sign + ";";
            if (blank) {
                fine(Character.toString(sign), 0);
                fine(line, 1);
            } else {
                faulty(Character.toString(sign), token ? 2 : 1, 0);
            }
            if (sign == 48 || sign == 49) {
                fine(line, 1, "rhomb(0, 2) = " + (sign - 48));
            } else if (digit) {
                faulty(line, 3, 25);
            } else if (sign == 59) {
                faulty(line, 2, 27);
            } else if (!blank) {
                faulty(line, token ? 2 : 1, 26);
            }
        }
    }

    private static void blanks() {
        fine("", 0);
        fine(" ", 0);
        fine(" \n \n", 0);
        fine("\n" + LINE, 1);
        fine(LINE + "\n", 1);
        fine(" thin\n0\n\n0  0 \n 0\nturn\n0\nhand\n0\n;\n", 1);
        fine("thin 1-1 2-2turn9hand1;", 1, "spot(0, 0, 0) = 1", "spot(0, 0, 1) = -1", "spot(0, 0, 2) = 2", "spot(0, 0, 3) = -2", "rhomb(0, 1) = 9", "rhomb(0, 2) = 1");
        // Without a blank two WORDS are one, and two NUMBERS are one.
        faulty("thin 0 0 0 0 turn 0 hand0;thinthin 9 0 0 0 turn 0 hand 0;", 2, 26);
        faulty("thin 00 0 0 turn 0 hand 0;", 2, 12);
        faulty("thin 0 0 0 0 turnhand 0;", 2, 13);
    }

    private static void numbers() {
        fine("thin 0 00 000 9 turn 9 hand 1;", 1, "spot(0, 0, 3) = 9", "rhomb(0, 1) = 9", "rhomb(0, 2) = 1");
        fine("thick 999 - 999 99 - 99 turn 009 hand 001;", 1, "spot(0, 0, 0) = 999", "spot(0, 0, 1) = -999", "spot(0, 0, 2) = 99", "spot(0, 0, 3) = -99", "rhomb(0, 1) = 9",
            "rhomb(0, 2) = 1");
        fine("thin - 0 - 00 - 000 0 turn 0 hand 0;", 1, "spot(0, 0, 0) = 0", "printed 'thin 0 0 0 0 turn 0 hand 0;'");
        // 4 digits and more, in each place: at the first digit.
        faulty("thin 1000 0 0 0 turn 0 hand 0;", 1, 5);
        faulty("thin 0 0000 0 0 turn 0 hand 0;", 1, 7);
        faulty("thin 0 0 -9999 0 turn 0 hand 0;", 1, 10);
        faulty("thin 0 0 0 0001 turn 0 hand 0;", 1, 11);
        faulty("thin 0 0 0 0 turn 0009 hand 0;", 1, 18);
        faulty("thin 0 0 0 0 turn 0 hand 0001;", 1, 25);
        faulty("thin 4294967296 0 0 0 turn 0 hand 0;", 1, 5);
        faulty("thin 0 0 0 0 turn 18446744073709551616 hand 0;", 1, 18);
        // d: 0 to 9; HAND: 0, 1.
        faulty("thin 0 0 0 0 turn 10 hand 0;", 3, 18);
        faulty("thin 0 0 0 0 turn 010 hand 0;", 3, 18);
        faulty("thin 0 0 0 0 turn 999 hand 0;", 3, 18);
        faulty("thin 0 0 0 0 turn 9 hand 2;", 3, 25);
        faulty("thin 0 0 0 0 turn 9 hand 002;", 3, 25);
        faulty("thin 0 0 0 0 turn 9 hand 999;", 3, 25);
        faulty("thin 0 0 0 0 turn 10 hand 2;", 3, 18);
        // [-]: once or not; none at d and HAND.
        faulty("thin --1 0 0 0 turn 0 hand 0;", 2, 6);
        faulty("thin 0 0 0 - - 1 turn 0 hand 0;", 2, 13);
        faulty("thin - turn 0 hand 0;", 2, 7);
        faulty("thin - 1 0 0 0 turn -1 hand 0;", 2, 20);
        faulty("thin - 1 0 0 0 turn 1 hand -0;", 2, 27);
    }

    private static void lines() {
        fine(LINE, 1);
        fine(manyLines(23), 23);
        fine(manyLines(24), 24);
        faulty(manyLines(25), 4, manyLines(24).length());
        faulty(manyLines(26), 4, manyLines(24).length());
        faulty(manyLines(24) + " \n thick 0 0 0 0 turn 0 hand 0;", 4, manyLines(24).length() + 3);
        // Every TOKEN of a LINE left out, and every one twice.
        String[] tokens = {"thin", "0", "0", "0", "0", "turn", "0", "hand", "0", ";"};
        for (int left = 0; left < 10; left++) {
            boolean count = left >= 1 && left <= 4;
            faulty(joined(tokens, left, 0), 2, left == 9 ? 26 : joined(tokens, left, 0).indexOf(count ? "turn" : left == 0 ? "0" : left == 5 ? "0 hand" : left == 6 ? "hand" : left == 7 ? "0 ;" : ";"));
        }
        for (int twice = 0; twice < 10; twice++) {
            String text = joined(tokens, twice, 2);
            int place = twice == 0 ? 5 : twice <= 4 ? 13 : twice == 5 ? 18 : twice == 6 ? 20 : twice == 7 ? 25 : twice == 8 ? 27 : 29;
            faulty(text, 2, place);
        }
    }

    private static String joined(String[] tokens, int which, int times) {
        StringBuilder text = new StringBuilder();
        for (int n = 0; n < tokens.length; n++) {
            for (int time = 0; time < (n == which ? times : 1); time++) {
                text.append(text.length() == 0 ? "" : " ").append(tokens[n]);
            }
        }
        return text.toString();
    }

    /** The end can't stand anywhere within a LINE: 2, at the text's length. */
    private static void theEnd() {
        String text = "thin - 1 0 0 - 2 turn 3 hand 1 ;";
        for (int length = 1; length < text.length(); length++) {
            String cut = text.substring(0, length);
            boolean word = cut.endsWith("t") || cut.endsWith("th") || cut.endsWith("thi") || cut.endsWith("tu") || cut.endsWith("tur") || cut.endsWith("h")
                || cut.endsWith("ha") || cut.endsWith("han");
            int begin = Math.max(cut.lastIndexOf(' ') + 1, 0);
            faulty(cut, 2, word ? begin : length);
        }
        fine(text, 1);
        faulty("thin \n ", 2, 7);
        faulty(LINE + "\nthin", 2, 32);
    }

    /** Two FAULTS in different TOKENS: the one that stands first is told, whatever its kind. */
    private static void firstAlongTheText() {
        faulty("A thinn", 1, 0);
        faulty("thinn A", 2, 0);
        faulty("thin 0 0 0 0 turn 10 hand A;", 3, 18);
        faulty("thin 0 0 0 0 turn 10 0", 3, 18);
        faulty("thin A 0 0 0 turn 10 hand 0;", 1, 5);
        faulty("thin turn 0 0 0 turn 10 hand 0;", 2, 5);
        faulty("thin 0 0 0 0 turn 0 hand 2 A", 3, 25);
        faulty("thin 0 0 0 0 turn 0 hand 2", 3, 25);
        faulty(LINE + LINE + "A", 6, 27);
        faulty(LINE + LINE + "thin 0 0 0 0 turn 10 hand 0;", 6, 27);
        faulty(LINE + "thick 0 0 0 0 turn 0 hand 1;" + "A", 7, 27);
        faulty(LINE + "thick 0 0 0 0 turn 0 hand 1;" + LINE, 7, 27);
        faulty(LINE + LINE + "thick 0 0 0 0 turn 0 hand 1;", 6, 27);
        faulty(LINE + "A" + LINE, 1, 27);
        faulty("A" + LINE + LINE, 1, 0);
    }

    /** 6 and 7: at the LINE's first WORD, if all of the LINE can stand; 4: whatever stands behind that WORD. */
    private static void firstOfLines() {
        faulty(LINE + " " + LINE, 6, 28);
        faulty(LINE + " thin 0 0 0 0 turn 0 hand 0", 2, 54);
        faulty(LINE + " thin 0 0 0 0 turn 0 hand 0 thin", 2, 55);
        faulty(LINE + " thin 0 0 0 0 turn 0 hand 0 A", 1, 55);
        faulty(LINE + " thin 0 0 0 0 turn 0 hand 2;", 3, 53);
        faulty(LINE + " thin 0 0 0 0 turn 10 hand 0;", 3, 46);
        faulty(LINE + " thin 0 0 0 0 turn 0000 hand 0;", 1, 46);
        faulty(LINE + " thick 0 0 0 0 turn 0 hand 1;", 7, 28);
        faulty(LINE + " thick 0 0 0 0 turn 0 hand 1", 2, 55);
        faulty(LINE + " thick 0 0 0 0 turn 0 hand 3;", 3, 54);
        // 6 goes ahead of 7: at the edge of the one, and on the other.
        faulty("thick 0 0 0 0 turn 0 hand 0;thin - 1 0 0 0 turn 9 hand 0;thick 1 0 0 0 turn 5 hand 0;", 6, 57);
        faulty("thick 0 0 0 0 turn 0 hand 0;thick 1 0 0 0 turn 5 hand 0;", 7, 28);
        String all = manyLines(24);
        faulty(all + "thin", 4, all.length());
        faulty(all + "thin A", 4, all.length());
        faulty(all + "thin thin", 4, all.length());
        faulty(all + "thick 0 0 0 0 turn 10 hand 0;", 4, all.length());
        faulty(all + LINE, 4, all.length());
        faulty(all + "thin 500 0 0 0 turn 0 hand 0;", 4, all.length());
        faulty(all + "turn", 2, all.length());
        faulty(all + "thinn", 2, all.length());
        faulty(all + ";", 2, all.length());
        faulty(all + "100", 2, all.length());
        faulty(all + "1000", 1, all.length());
        faulty(all + "T", 1, all.length());
        faulty(manyLines(23) + LINE + LINE, 6, manyLines(23).length());
        faulty(manyLines(23) + "thick 0 0 0 0 turn 0 hand 1;" + LINE, 7, manyLines(23).length());
        fine(all + " \n", 24);
    }

    private static void leastOfOneToken() {
        faulty("1000", 1, 0);
        faulty("999", 2, 0);
        faulty("thin 0 0 0 0 1000 0 hand 0;", 1, 13);
        faulty("thin 0 0 0 0 100 0 hand 0;", 2, 13);
        faulty("thin 0 0 0 0 turn 1000 hand 0;", 1, 18);
        faulty("thin 0 0 0 0 turn 100 hand 0;", 3, 18);
        faulty("thin 0 0 0 0 turn 0 hand 1000", 1, 25);
        faulty("thin 0 0 0 0 turn 0 hand 100", 3, 25);
        faulty("thin 0 0 0 0 turn 0 hand 0 1000", 1, 27);
        faulty("thin 0 0 0 0 turn 0 hand 0 100", 2, 27);
    }

    private static void behindAFault() {
        run("by a FAULT the TABLE is as it was", "lay(1, 0, 0, 0, 0, 2, 1) = 0", "lay(0, 9, 0, 0, 0, 3, 0) = 1", "print() = 55", "load '" + manyLines(3) + "thin' ! 9", "many(13) = 2",
            "many(14) = 8", "rhomb(0, 0) = 1", "rhomb(0, 1) = 2", "rhomb(0, 2) = 1", "spot(1, 0, 0) = 9", "load '" + manyLines(25) + "' ! 9", "many(13) = 2", "load '" + LINE + LINE + "' ! 9",
            "many(13) = 2", "lay(0, 20, 0, 0, 0, 0, 0) = 2", "load '" + LINE + "' = 1", "load 'x' ! 9", "many(13) = 1", "rhomb(0, 0) = 0");
        run("by a FAULT the tape is empty", "feed(0, 0, 0, 0, 0) ~ 20", "feed(0, 0, 0, 0, 0) ~ 40", "load(1) ! 9", "load(1) ! 1", "feed(0, 0, 0, 0, 0) ~ 20", "load(20) ! 9",
            "feed(0, 0, 0, 0, 0) ~ 20");
        run("with STATUS 1 the tape and what fault() tells are as they were", "load 'thinn' ! 9", "feed(1952999790, 540024880, 540024880, 544503154, 1847603232) ~ 20", "load(21) ! 1",
            "load(-1) ! 1", "fault(0) ~ 2", "fault(1) ~ 0", "feed(1751215716, 540031776, 538976288, 538976288, 538976288) ~ 40", "load(41) ! 1", "load(40) = 1", "fault(0) ~ 0");
    }

    private static void latestLoad() {
        run("promise 48: ahead of any", "fault(0) ~ -1", "fault(1) ~ -1", "fault(2) ~ -1", "load(1) ! 1", "fault(0) ~ -1", "fault(1) ~ -1", "load(-1) ! 1", "fault(0) ~ -1",
            "feed(0, 0, 0, 0, 0) ~ 20", "fault(0) ~ -1", "load(21) ! 1", "fault(0) ~ -1", "fault(1) ~ -1", "load(0) = 0", "fault(0) ~ 0", "fault(1) ~ -1");
        run("promise 48: of the latest with STATUS 0 or 9", "load 'thin 0 A' ! 9", "fault(0) ~ 1", "fault(1) ~ 7", "load 'x' ! 9", "fault(0) ~ 2", "fault(1) ~ 0", "load(1) ! 1",
            "fault(0) ~ 2", "fault(1) ~ 0", "many(15) ! 1", "clear() = 0", "start(1) = 1", "fault(0) ~ 2", "load '" + LINE + "' = 1", "fault(0) ~ 0", "fault(1) ~ -1", "load(5) ! 1",
            "fault(0) ~ 0", "fault(1) ~ -1", "load '" + LINE + LINE + "' ! 9", "fault(0) ~ 6", "fault(1) ~ 27", "load '' = 0", "fault(0) ~ 0", "fault(1) ~ -1");
    }

    private static void print() {
        run("promise 49: an empty TABLE", "print() = 0", "out(0) ! 5", "lay(0, 0, 0, 0, 0, 0, 0) = 0", "print() = 27", "clear() = 1", "print() = 0", "out(0) ! 5");
        run("promise 49: one, two, three digits, below 0", "lay(0, 9, 10, 99, 100, 9, 1) = 0", "printed 'thin 9 10 99 100 turn 9 hand 1;'", "clear() = 1",
            "lay(1, -9, -10, -99, -100, 0, 0) = 0", "printed 'thick - 9 - 10 - 99 - 100 turn 0 hand 0;'", "clear() = 1", "lay(1, 999, -999, 0, -1, 5, 1) = 0",
            "printed 'thick 999 - 999 0 - 1 turn 5 hand 1;'");
        run("promise 49: no blank behind ;", "lay(0, 0, 0, 0, 0, 0, 0) = 0", "lay(1, 9, 0, 0, 0, 0, 0) = 1", "lay(0, 18, 0, 0, 0, 0, 0) = 2",
            "printed 'thin 0 0 0 0 turn 0 hand 0;thick 9 0 0 0 turn 0 hand 0;thin 18 0 0 0 turn 0 hand 0;'", "take(1) = 2",
            "printed 'thin 0 0 0 0 turn 0 hand 0;thin 18 0 0 0 turn 0 hand 0;'");
        String all = manyLines(6);
        run("promise 49: a TEXT of the TABLE", "load '" + all + "' = 6", "printed '" + all + "'", "load '" + all + "' = 6");
        List<String> lines = new ArrayList<>();
        for (int n = 0; n < 24; n++) {
            lines.add("lay(1, " + (-999 + 3 * n) + ", -999, -999, -999, 9, 1) = " + n);
        }
        lines.addAll(List.of("print() = 1056", "out(0) = 116", "out(43) = 59", "out(44) = 116", "out(1012) = 116", "out(1054) = 49", "out(1055) = 59", "out(1056) ! 5"));
        run("promise 49: the longest there is", lines);
    }

    private static void out() {
        run("promise 50: 1: below 0; 5", "out(-1) ! 1", "out(0) ! 5", "lay(1, 0, 0, 0, 0, 0, 0) = 0", "out(0) ! 5", "print() = 28", "out(-1) ! 1", "out(0) = 116", "out(27) = 59",
            "out(28) ! 5", "out(29) ! 5");
        run("promise 50: OUT stays till print()", "lay(1, 0, 0, 0, 0, 0, 0) = 0", "lay(1, 9, 0, 0, 0, 0, 0) = 1", "print() = 56", "take(0) = 1", "out(6) = 48", "out(55) = 59", "clear() = 1",
            "out(55) = 59", "load '" + LINE + "' = 1", "out(4) = 107", "start(2) = 1", "out(4) = 107", "print() = 27", "out(4) = 32", "out(26) = 59", "out(27) ! 5", "out(55) ! 5");
    }
}
