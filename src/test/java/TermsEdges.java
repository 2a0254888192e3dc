/** Edges that stand ahead of the promises: the terms, the parts behind them, the paragraph on refusals. */
final class TermsEdges {
    private static final int NONE = RowsOfTwo.NONE, BAD = RowsOfTwo.BAD, NOT = RowsOfTwo.NOT, FULL = RowsOfTwo.FULL;
    private static final int NULL = -11, INDEX = -12, CAST = -13, STORE = -14, SIZE = -15;
    private static final int MILLION = 1000000;
    private static final int MOST_CALLS = 512;

    private TermsEdges() {}

    static void run() {
        objects();
        numbers();
        sentences();
        sheets();
        shownAndDealt();
        refusals();
    }

    private static void test(String words, Runnable test) {
        Edges.test(0, words, test);
    }

    private static void objects() {
        test("ROWS 0 to 3 have 0 to 15 signs each (none at first)", TermsEdges::rowsHaveNoneToFifteen);
        test("An object is used for at most 512 calls after it has been made", TermsEdges::theLastCallIsAnswered);
        test("1 a hit, 0 a miss, NONE not seen.", TermsEdges::threeSigns);
        test("ODDS of a hit are m by 16 (1 to 15; 8 at first).", TermsEdges::oddsLeastToMost);
        test("A row is WHOLE, if all its signs were seen.", TermsEdges::wholeByEachSign);
    }

    private static void numbers() {
        test("o how many hits", TermsEdges::hitsNoneToAll);
        test("r how many runs (of like signs, as long as can be)", TermsEdges::runsOneToFifteen);
        test("l how long its longest run is", TermsEdges::longestRunAtEachPlace);
        test("h its longest run of hits", TermsEdges::longestHitsAtEachPlace);
        test("b hits that stand right behind a hit", TermsEdges::hitsBehindHits);
        test("f the place of its first hit (0 on; 15 without one)", TermsEdges::firstHitAtEachPlace);
        test("p how often THE PATTERN stands in it (also one over another).", TermsEdges::patternsOneOverAnother);
        test("(Without signs: all 0, f 15.)", TermsEdges::numbersWithoutSigns);
        test("THE PATTERN is 1 to 6 signs 0, 1 (told; 1 at first).", TermsEdges::patternAtFirst);
    }

    private static void sentences() {
        test("SENTENCES are a text of up to 60 bytes", TermsEdges::sixtyBytes);
        test("ALTERNATIVES with | between them", TermsEdges::alternativesOneToFifteen);
        test("each of TESTS with + between them", TermsEdges::testsOneToFifteen);
        test("o, r, l, h, b, f, p, then < = or >, then a number", TermsEdges::eachByteAtEachPlace);
        test("a number (one or two figures)", TermsEdges::figures);
        test("A row HOLDS them, if it does all TESTS of some ALTERNATIVE.", TermsEdges::firstToLastAlternative);
        test("The FAULT is the place of the first byte with which it cannot go on", TermsEdges::theFirstFault);
        test("(of an empty text 0)", TermsEdges::emptyText);
        test("FRACTIONS are told in lowest terms, above and below (0 by 1).", TermsEdges::noneIsZeroByOne);
    }

    private static void sheets() {
        test("SHEETS 0 .. 3 are LOST (at first)", TermsEdges::sheetsLostAtFirst);
        test("a row of a TYPE: 0 bytes, 1 shorts, 2 ints", TermsEdges::typesLeastAndMost);
        test("of 0 to 40 items (0 at first)", TermsEdges::noneToFortyItems);
        test("FINDINGS (answers -10 less the number; they change nothing but count() 8)", TermsEdges::findingsInTurn);
        test("1 NULL: the SHEET is LOST", TermsEdges::findNull);
        test("2 INDEX: there is no such item", TermsEdges::findIndex);
        test("3 CAST: it has another TYPE", TermsEdges::findCast);
        test("4 STORE: unlike TYPES", TermsEdges::findStore);
        test("5 SIZE: below 0", TermsEdges::findSize);
    }

    private static void shownAndDealt() {
        test("SHOWN are WHOLE rows of n signs that HOLD the SENTENCES", TermsEdges::shownByTheLatest);
        test("by what share a row by lots is SHOWN (each sign a hit by the ODDS)", TermsEdges::shareByTheLatest);
        test("the i-th in order (the first sign compared first, 0 ahead)", TermsEdges::inOrder);
        test("FILLS of a ROW: all ways to see what was not seen", TermsEdges::fillsKeepWhatWasSeen);
        test("SURE: signs that are the same in all that HOLD (a hit 1, a miss 0, else NONE).", TermsEdges::sureSigns);
        test("DEALT are all WHOLE rows of as many signs with as many hits as a ROW that is WHOLE.",
                TermsEdges::dealtAreAsMany);
        test("in millionths, rounded down. STRANGEST", TermsEdges::sharesRoundedDown);
        test("is no more, no less than the ROW's", TermsEdges::likeNumbersCount);
        test("the one with the least share (compared exactly), of like ones the first number, FEW ahead of MUCH",
                TermsEdges::strangestOfLikeOnes);
        test("that stand right behind k hits (1 to 4), one after the other", TermsEdges::hotOneAfterTheOther);
        test("over all DEALT rows that have such signs", TermsEdges::alreadyOverThoseThatHave);
        test("until THE PATTERN has come", TermsEdges::waitsForItsLastSign);
        test("1 to 4 signs: 2 to 31; neither standing in the other", TermsEdges::firstOfOneToFourSigns);
        test("as many or more agree with the first; in millionths, rounded down.", TermsEdges::chanceRoundedDown);
        test("the first of these; 0: none of them, or it has an odd number of signs, or none.",
                TermsEdges::twiceTheFirstOfThese);
        test("NEXT of a ROW by k (0 to 4): of signs that were seen, and have the same k signs ahead of them (all seen)",
                TermsEdges::nextOfSignsSeen);
        test("the FRACTION (hits and 1) by (all and 2)", TermsEdges::nextInLowestTerms);
    }

    private static void refusals() {
        test("BAD -2 (a number not as told, no such thing)", TermsEdges::noSuchRow);
        test("Refusals, the first that fits, in the order told at each act", TermsEdges::refusalsInOrder);
        test("a FAULT where SENTENCES are needed", TermsEdges::faultWhereSentencesAreNeeded);
        test("a ROW that is not WHOLE where it must be", TermsEdges::notWholeWhereItMustBe);
        test("They change nothing (FINDINGS but count() 8).", TermsEdges::refusalsChangeNothing);
        test("Where the answer is a long, a refusal -x is the least long and x more.", TermsEdges::refusalsAsLongs);
    }

    private static void shows(String signs, int pattern, int which, int want) {
        RowsOfTwo x = Check.withRow(signs);
        x.set(1, pattern);
        Edges.due("shows(0, " + which + ") of '" + signs + "', PATTERN " + pattern, x.shows(0, which), want);
    }

    // ---- objects

    private static void rowsHaveNoneToFifteen() {
        RowsOfTwo x = new RowsOfTwo();
        for (int row = 0; row < 4; row++) {
            Edges.due("count(" + row + ") at first", x.count(row), 0);
            for (int i = 1; i <= 15; i++) {
                Edges.due("sign " + i, x.sign(row, i % 2), i);
            }
            Edges.due("sign 16", x.sign(row, 0), FULL);
        }
        Edges.due("sign(4, 0)", x.sign(4, 0), BAD);
        Edges.due("sign(-1, 0)", x.sign(-1, 0), BAD);
    }

    private static void theLastCallIsAnswered() {
        Edges.Act[] calls = {
            x -> x.sign(0, 1), x -> x.type('o'), x -> x.sheet(0, 0, 40), x -> x.set(1, 2), x -> x.shown(15, 0),
            x -> x.strangest(0), x -> x.digest(), x -> x.lose(0), x -> x.wipe(), x -> x.clear(0)
        };
        for (Edges.Act call : calls) {
            RowsOfTwo x = new RowsOfTwo();
            for (int c = 1; c < MOST_CALLS; c++) {
                call.on(x);
            }
            Edges.due("ODDS by the last call", x.set(0, 9), 8);
        }
        RowsOfTwo y = new RowsOfTwo();
        for (int c = 1; c <= MOST_CALLS / 2; c++) {
            Edges.due("sign, call " + (2 * c - 1), y.sign(3, 1), 1);
            Edges.due("clear, call " + 2 * c, y.clear(3), 1);
        }
        RowsOfTwo z = Check.withText("o=1");
        for (int c = 5; c <= MOST_CALLS; c++) {
            Edges.due("nth(4, 1), call " + c, z.nth(4, 1), 18);
        }
    }

    private static void threeSigns() {
        RowsOfTwo x = new RowsOfTwo();
        x.sign(0, 1);
        Edges.due("hits behind 1", x.shows(0, 0), 1);
        x.sign(0, 0);
        Edges.due("hits behind 0", x.shows(0, 0), 1);
        Edges.due("signs", x.count(0), 2);
        x.sign(0, NONE);
        Edges.due("hits behind NONE", x.shows(0, 0), NOT);
        Edges.due("signs", x.count(0), 3);
        int[] signs = {1, 0, NONE};
        for (int i = 0; i < 3; i++) {
            Edges.due("at(0, " + i + ")", x.at(0, i), signs[i]);
        }
        Edges.due("2", x.sign(0, 2), BAD);
        Edges.due("-2", x.sign(0, -2), BAD);
    }

    private static void oddsLeastToMost() {
        RowsOfTwo x = Check.withText("o=1");
        Edges.due("at first", x.count(5), 8);
        Edges.fraction("share(1) at first", x.share(1, 0), x.share(1, 1), 1, 2);
        Edges.due("0", x.set(0, 0), BAD);
        Edges.due("1", x.set(0, 1), 8);
        Edges.fraction("share(1) by 1", x.share(1, 0), x.share(1, 1), 1, 16);
        Edges.due("15", x.set(0, 15), 1);
        Edges.fraction("share(1) by 15", x.share(1, 0), x.share(1, 1), 15, 16);
        Edges.due("16", x.set(0, 16), BAD);
        Edges.due("they stay", x.count(5), 15);
    }

    private static void wholeByEachSign() {
        Edges.due("rows without signs", new RowsOfTwo().count(7), 15);
        for (int length = 1; length <= 15; length++) {
            Edges.due(length + " hits", Check.withRow("1".repeat(length)).count(7), 15);
            Edges.due(length + " misses", Check.withRow("0".repeat(length)).count(7), 15);
            for (int place = 0; place < length; place++) {
                String signs = "0".repeat(place) + "?" + "0".repeat(length - 1 - place);
                Edges.due(signs, Check.withRow(signs).count(7), 14);
            }
        }
    }

    // ---- numbers

    private static void hitsNoneToAll() {
        for (int length = 0; length <= 15; length++) {
            for (int hits = 0; hits <= length; hits++) {
                shows("1".repeat(hits) + "0".repeat(length - hits), 3, 0, hits);
                shows("0".repeat(length - hits) + "1".repeat(hits), 3, 0, hits);
            }
        }
    }

    private static void runsOneToFifteen() {
        for (int length = 1; length <= 15; length++) {
            shows("0".repeat(length), 3, 1, 1);
            shows("1".repeat(length), 3, 1, 1);
            shows("10".repeat(8).substring(0, length), 3, 1, length);
            shows("01".repeat(8).substring(0, length), 3, 1, length);
            shows("1" + "0".repeat(length - 1), 3, 1, Math.min(length, 2));
            shows("0".repeat(length - 1) + "1", 3, 1, Math.min(length, 2));
        }
    }

    private static void longestRunAtEachPlace() {
        for (int length = 1; length <= 15; length++) {
            shows("0".repeat(length), 3, 2, length);
            shows("1".repeat(length), 3, 2, length);
            shows("10".repeat(8).substring(0, length), 3, 2, 1);
        }
        shows("110101010101010", 3, 2, 2);
        shows("010101010101011", 3, 2, 2);
        shows("001010101010101", 3, 2, 2);
        shows("101010101010100", 3, 2, 2);
        shows("111000011", 3, 2, 4);
        shows("000111100", 3, 2, 4);
        shows("111000", 3, 2, 3);
    }

    private static void longestHitsAtEachPlace() {
        for (int length = 0; length <= 15; length++) {
            shows("0".repeat(length), 3, 3, 0);
            shows("1".repeat(length), 3, 3, length);
        }
        for (int place = 0; place <= 13; place++) {
            shows("0".repeat(place) + "11" + "0".repeat(13 - place), 3, 3, 2);
        }
        shows("111000011", 3, 3, 3);
        shows("110000111", 3, 3, 3);
        shows("101010101010101", 3, 3, 1);
    }

    private static void hitsBehindHits() {
        for (int length = 1; length <= 15; length++) {
            shows("1".repeat(length), 3, 4, length - 1);
            shows("0".repeat(length - 1) + "1", 3, 4, 0);
            shows("1" + "0".repeat(length - 1), 3, 4, 0);
        }
        shows("101010101010101", 3, 4, 0);
        shows("110000000000000", 3, 4, 1);
        shows("000000000000011", 3, 4, 1);
        shows("110110110110110", 3, 4, 5);
    }

    private static void firstHitAtEachPlace() {
        for (int length = 1; length <= 15; length++) {
            shows("0".repeat(length), 3, 5, 15);
            for (int place = 0; place < length; place++) {
                shows("0".repeat(place) + "1" + "0".repeat(length - 1 - place), 3, 5, place);
                shows("0".repeat(place) + "1".repeat(length - place), 3, 5, place);
            }
        }
    }

    private static void patternsOneOverAnother() {
        for (int size = 1; size <= 6; size++) {
            int hits = (2 << size) - 1;
            int misses = 1 << size;
            for (int length = 0; length <= 15; length++) {
                shows("1".repeat(length), hits, 6, Math.max(0, length - size + 1));
                shows("0".repeat(length), misses, 6, Math.max(0, length - size + 1));
                shows("0".repeat(length), hits, 6, 0);
                shows("1".repeat(length), misses, 6, 0);
            }
        }
        shows("101010101010101", 13, 6, 7);
        shows("010101010101010", 0b1101010, 6, 5);
        for (int place = 0; place <= 9; place++) {
            shows("0".repeat(place) + "110101" + "0".repeat(9 - place), 0b1110101, 6, 1);
        }
        shows("10101", 0b1110101, 6, 0);
        shows("110100", 0b1110101, 6, 0);
    }

    private static void numbersWithoutSigns() {
        int[] patterns = {2, 3, 64, 127};
        for (int pattern : patterns) {
            for (int which = 0; which < 7; which++) {
                shows("", pattern, which, which == 5 ? 15 : 0);
            }
        }
        RowsOfTwo x = Check.withRow("111111111111111");
        x.clear(0);
        for (int which = 0; which < 7; which++) {
            Edges.due("shows(0, " + which + ") behind clear", x.shows(0, which), which == 5 ? 15 : 0);
        }
    }

    private static void patternAtFirst() {
        RowsOfTwo x = Check.withRow("0110");
        Edges.due("as a number", x.count(6), 3);
        Edges.due("in 0110", x.shows(0, 6), 2);
        Edges.due("of no signs", x.set(1, 1), BAD);
        Edges.due("of one sign", x.set(1, 2), 3);
        Edges.due("of six signs", x.set(1, 127), 2);
        Edges.due("of seven signs", x.set(1, 128), BAD);
        Edges.due("it stays", x.count(6), 127);
    }

    // ---- sentences

    private static void sixtyBytes() {
        RowsOfTwo x = new RowsOfTwo();
        for (int i = 1; i <= 60; i++) {
            Edges.due("byte " + i, x.type('o'), i);
        }
        Edges.due("byte 61", x.type('o'), FULL);
        Edges.due("bytes", x.count(4), 60);
    }

    private static void fault(String text, int want) {
        Edges.due("fault of '" + text + "'", Check.withText(text).fault(), want);
    }

    private static void holds(String text, int want) {
        RowsOfTwo x = Check.withText(text);
        Check.signs(x, 0, "0110");
        Edges.due("0110 " + text, x.holds(0), want);
    }

    private static void alternativesOneToFifteen() {
        for (int many = 1; many <= 15; many++) {
            fault("o>9|".repeat(many - 1) + "o=2", NONE);
            holds("o>9|".repeat(many - 1) + "o=2", 1);
            holds("o=2" + "|o>9".repeat(many - 1), 1);
            holds("o>9|".repeat(many - 1) + "o=3", 0);
        }
        fault("|", 0);
        fault("|o=2", 0);
        fault("o=2|", 4);
        fault("o=2||o=2", 4);
        fault("o=2|+o=2", 4);
    }

    private static void testsOneToFifteen() {
        for (int many = 1; many <= 15; many++) {
            fault("o<9+".repeat(many - 1) + "o=2", NONE);
            holds("o<9+".repeat(many - 1) + "o=2", 1);
            holds("o<9+".repeat(many - 1) + "o=3", 0);
            holds("o=3" + "+o<9".repeat(many - 1), 0);
        }
        fault("+", 0);
        fault("+o=2", 0);
        fault("o=2+", 4);
        fault("o=2++o=2", 4);
        fault("o=2+|o=2", 4);
    }

    /** Each byte behind each start: those that may come there, and no others, make no FAULT at their own place. */
    private static void eachByteAtEachPlace() {
        String letters = "orlhbfp";
        String figures = "0123456789";
        String[][] starts = {
            {"", letters}, {"o", "<=>"}, {"p", "<=>"}, {"o<", figures}, {"o=", figures}, {"o>", figures},
            {"o<1", figures + "+|"}, {"o<12", "+|"}, {"o<1+", letters}, {"o<1|", letters}, {"o<12+", letters},
            {"o<1+r", "<=>"}, {"o<1|r=", figures}, {"o<1|r=0", figures + "+|"}, {"o<1|r=00", "+|"}
        };
        for (String[] start : starts) {
            for (int b = 0; b <= 255; b++) {
                RowsOfTwo x = Check.withText(start[0]);
                x.type(b);
                boolean mayCome = start[1].indexOf(b) >= 0;
                boolean isEnd = mayCome && figures.indexOf(b) >= 0;
                int want = isEnd ? NONE : mayCome ? start[0].length() + 1 : start[0].length();
                Edges.due("fault of '" + start[0] + "' and byte " + b, x.fault(), want);
            }
        }
    }

    private static void figures() {
        fault("o<", 2);
        fault("o<0", NONE);
        fault("o<9", NONE);
        fault("o<00", NONE);
        fault("o<99", NONE);
        fault("o<000", 4);
        fault("o<100", 4);
        fault("o<+", 2);
        fault("o<-1", 2);
        Edges.due("o<1", Check.withText("o<1").shown(15, NONE), 1);
        Edges.due("o<01", Check.withText("o<01").shown(15, NONE), 1);
        Edges.due("o<10 is not o<1", Check.withText("o<10").shown(15, 9), 5005);
        Edges.due("o<10", Check.withText("o<10").shown(15, 10), 0);
        Edges.due("f=15", Check.withText("f=15").shown(15, NONE), 1);
        Edges.due("o>99", Check.withText("o>99").shown(15, NONE), 0);
        Edges.due("o<99", Check.withText("o<99").shown(15, NONE), 32768);
        Edges.due("o<00", Check.withText("o<00").shown(15, NONE), 0);
        Edges.due("o>00", Check.withText("o>00").shown(15, NONE), 32767);
    }

    private static void firstToLastAlternative() {
        holds("o=2", 1);
        holds("o=1", 0);
        holds("o=2+r=3", 1);
        holds("o=2+r=2", 0);
        holds("o=1+r=3", 0);
        holds("o=2|r=2", 1);
        holds("o=1|r=3", 1);
        holds("o=1|r=2", 0);
        holds("o=2+r=3|o=1", 1);
        holds("o=1+r=3|o=2", 1);
        holds("o=1|o=2+r=3", 1);
        holds("o=1|o=2+r=2", 0);
        holds("o=1+r=3|o=2+r=2", 0);
        holds("o=1|o=2|o=3", 1);
        holds("o=1+o=2|o=3|o=2+l=2+h=2", 1);
        holds("o=1+o=2|o=3|o=2+l=2+h=3", 0);
        holds("o=1+o=2|o=2+o=1", 0);
        testsInAnyOrder();
    }

    /** Each two numbers in both orders, each as it is and each by one more, first for another row. */
    private static void testsInAnyOrder() {
        String letters = "orlhbfp";
        // 0110100 with THE PATTERN 01.
        int[] numbers = {3, 5, 2, 2, 1, 1, 2};
        for (int one = 0; one < 7; one++) {
            for (int two = 0; two < 7; two++) {
                for (int more = 0; more < 4; more++) {
                    String first = letters.charAt(one) + "=" + (numbers[one] + (more & 1));
                    String second = letters.charAt(two) + "=" + (numbers[two] + (more >> 1));
                    RowsOfTwo x = Check.withRow("0110100");
                    x.set(1, 5);
                    Check.signs(x, 1, "111111110000");
                    Check.text(x, first + "+" + second);
                    Edges.due("111111110000 " + first + "+" + second, x.holds(1), 0);
                    Edges.due("0110100 " + first + "+" + second, x.holds(0), more == 0 ? 1 : 0);
                    Check.text(x, first + "|" + second);
                    x.holds(1);
                    Edges.due("0110100 " + first + "|" + second, x.holds(0), more == 3 ? 0 : 1);
                }
            }
        }
    }

    private static void theFirstFault() {
        fault("x", 0);
        fault("xy", 0);
        fault("ox", 1);
        fault("ox=1", 1);
        fault("o=x", 2);
        fault("o=1x", 3);
        fault("o=1x+x", 3);
        fault("o=11x", 4);
        fault("o=1+x", 4);
        fault("o", 1);
        fault("o=", 2);
        fault("o=1+", 4);
        fault("o=11+", 5);
        RowsOfTwo x = Check.withText("o=1");
        Edges.due("fault of o=1", x.fault(), NONE);
        x.type('+');
        Edges.due("fault of o=1+", x.fault(), 4);
        x.type('r');
        x.type('>');
        Edges.due("fault of o=1+r>", x.fault(), 6);
        x.type('0');
        Edges.due("fault of o=1+r>0", x.fault(), NONE);
    }

    private static void emptyText() {
        RowsOfTwo x = new RowsOfTwo();
        Edges.due("at first", x.fault(), 0);
        Edges.due("holds", x.holds(0), NOT);
        Edges.due("shown", x.shown(0, NONE), NOT);
        Check.text(x, "o=1");
        x.wipe();
        Edges.due("behind wipe", x.fault(), 0);
        Edges.due("holds", x.holds(0), NOT);
        Edges.due("shown", x.shown(0, NONE), NOT);
    }

    private static void noneIsZeroByOne() {
        RowsOfTwo x = Check.withText("o>99");
        Check.signs(x, 0, "10");
        Check.signs(x, 1, "0?");
        Check.signs(x, 2, "00");
        Edges.fraction("share(15)", x.share(15, 0), x.share(15, 1), 0, 1);
        Edges.fraction("share(0)", x.share(0, 0), x.share(0, 1), 0, 1);
        Edges.fraction("filled(1)", x.filled(1, 0), x.filled(1, 1), 0, 1);
        Edges.fraction("hot(0, 1)", x.hot(0, 1, 0), x.hot(0, 1, 1), 0, 1);
        Edges.fraction("already(0, 1)", x.already(0, 1, 0), x.already(0, 1, 1), 0, 1);
        Check.text(x, "o<99");
        Edges.fraction("share(15) of all", x.share(15, 0), x.share(15, 1), 1, 1);
        Edges.fraction("filled(1) of all", x.filled(1, 0), x.filled(1, 1), 1, 1);
        x.set(0, 4);
        Check.text(x, "o=1");
        Edges.fraction("4 by 16", x.share(1, 0), x.share(1, 1), 1, 4);
        Edges.fraction("16 by 4", x.waits(0), x.waits(1), 4, 1);
        Edges.fraction("4 by 16", x.first(3, 2, 0), x.first(3, 2, 1), 1, 4);
        Edges.due("1 by 4 above", x.next(2, 0, 2), 1);
        Edges.due("1 by 4 below", x.next(2, 0, 3), 4);
        Check.signs(x, 3, "110110");
        Edges.fraction("2 by 4", x.hot(3, 1, 0), x.hot(3, 1, 1), 1, 2);
    }

    // ---- sheets

    private static void sheetsLostAtFirst() {
        RowsOfTwo x = new RowsOfTwo();
        for (int s = 0; s < 4; s++) {
            Edges.due("lose(" + s + ")", x.lose(s), NULL);
        }
        for (int s = 0; s < 4; s++) {
            Edges.due("sheet(" + s + ", 0, 1)", x.sheet(s, 0, 1), 1);
            Edges.due("lose(" + s + ")", x.lose(s), 1);
        }
        Edges.due("lose(4)", x.lose(4), BAD);
        Edges.due("lose(-1)", x.lose(-1), BAD);
    }

    private static void typesLeastAndMost() {
        int[] least = {-128, -32768, Edges.LEAST};
        int[] most = {127, 32767, Edges.MOST};
        for (int type = 0; type < 3; type++) {
            RowsOfTwo x = new RowsOfTwo();
            Edges.items(x, 0, type, least[type], most[type], least[type] - 1, most[type] + 1);
            Edges.due("the least", x.get(0, type, 0), least[type]);
            Edges.due("the most", x.get(0, type, 1), most[type]);
            Edges.due("below the least", x.get(0, type, 2), most[type]);
            Edges.due("above the most", x.get(0, type, 3), least[type]);
        }
        Edges.due("TYPE 3", new RowsOfTwo().sheet(0, 3, 1), BAD);
        Edges.due("TYPE -1", new RowsOfTwo().sheet(0, -1, 1), BAD);
    }

    private static void noneToFortyItems() {
        RowsOfTwo x = new RowsOfTwo();
        Edges.due("none", x.sheet(0, 2, 0), 0);
        Edges.due("item 0 of none", x.put(0, 2, 0, 1), INDEX);
        Edges.due("forty", x.sheet(0, 2, 40), 40);
        for (int i = 0; i < 40; i++) {
            Edges.due("item " + i + " at first", x.get(0, 2, i), 0);
        }
        Edges.due("item 40 of forty", x.put(0, 2, 40, 1), INDEX);
        Edges.due("forty-one", x.sheet(0, 2, 41), BAD);
        Edges.due("it stays", x.lose(0), 40);
    }

    private static void findingsInTurn() {
        Edges.refused("NULL", Edges::rich, x -> x.lose(3), -10 - 1);
        Edges.refused("INDEX", Edges::rich, x -> x.put(0, 0, 3, 9), -10 - 2);
        Edges.refused("CAST", Edges::rich, x -> x.put(0, 1, 0, 9), -10 - 3);
        Edges.refused("STORE", Edges::rich, x -> x.copy(0, 0, 1, 0, 1), -10 - 4);
        Edges.refused("SIZE", Edges::rich, x -> x.sheet(0, 0, -1), -10 - 5);
    }

    private static void findNull() {
        Edges.refused("read", Edges::rich, x -> x.read(3, 0), NULL);
        Edges.refused("lose", Edges::rich, x -> x.lose(3), NULL);
        Edges.refused("put", Edges::rich, x -> x.put(3, 0, 0, 0), NULL);
        Edges.refused("get", Edges::rich, x -> x.get(3, 0, 0), Edges.LEAST, 1);
        Edges.refused("copy from", Edges::rich, x -> x.copy(3, 0, 0, 0, 1), NULL);
        Edges.refused("copy to", Edges::rich, x -> x.copy(0, 0, 3, 0, 1), NULL);
        Edges.refused("write", Edges::rich, x -> x.write(0, 3), NULL);
        Edges.due("sheet of a LOST one", Edges.after(Edges::rich).sheet(3, 0, 1), 1);
    }

    private static void findIndex() {
        Edges.due("put to the last", Edges.after(Edges::rich).put(0, 0, 2, 9), 1);
        Edges.refused("put behind it", Edges::rich, x -> x.put(0, 0, 3, 9), INDEX);
        Edges.due("get of the last", Edges.after(Edges::rich).get(0, 0, 2), 5);
        Edges.refused("get behind it", Edges::rich, x -> x.get(0, 0, 3), Edges.LEAST, 2);
        Edges.due("copy up to the last", Edges.after(Edges::rich).copy(0, 0, 0, 1, 2), 1);
        Edges.refused("copy behind it", Edges::rich, x -> x.copy(0, 0, 0, 2, 2), INDEX);
    }

    private static void findCast() {
        Edges.refused("put", Edges::rich, x -> x.put(0, 1, 0, 9), CAST);
        Edges.refused("get", Edges::rich, x -> x.get(2, 1, 0), Edges.LEAST, 3);
    }

    private static void findStore() {
        Edges.refused("copy of bytes to shorts", Edges::rich, x -> x.copy(0, 0, 1, 0, 1), STORE);
        Edges.refused("copy of ints to shorts", Edges::rich, x -> x.copy(2, 0, 1, 0, 1), STORE);
        Edges.due("copy of bytes to bytes", Edges.after(Edges::rich).copy(0, 0, 0, 1, 1), 1);
    }

    private static void findSize() {
        Edges.refused("-1", Edges::rich, x -> x.sheet(0, 0, -1), SIZE);
        Edges.refused("the least", Edges::rich, x -> x.sheet(0, 0, Edges.LEAST), SIZE);
        Edges.due("0", Edges.after(Edges::rich).sheet(0, 0, 0), 0);
    }

    // ---- what is shown, filled and dealt

    /** What was answered before SENTENCES, THE PATTERN or ODDS changed must not be answered again. */
    private static void shownByTheLatest() {
        for (int n = 0; n <= 15; n++) {
            RowsOfTwo x = Check.withText("p=0");
            Edges.due("no hit in " + n, x.shown(n, NONE), 1);
            x.set(1, 2);
            Edges.due("no miss in " + n, x.shown(n, NONE), 1);
            Edges.due("it has all hits", x.shown(n, n), 1);
            x.type('9');
            Edges.due("p=09 in " + n, x.shown(n, NONE), n < 9 ? 0 : binomial(n, 9));
            Check.text(x, "o<99");
            Edges.due("all of " + n, x.shown(n, NONE), 1 << n);
            Edges.due("all hits of " + n, x.shown(n, n), 1);
            Check.text(x, "o>99");
            Edges.due("none of " + n, x.shown(n, NONE), 0);
            Edges.due("no hits alone of " + n, x.shown(n, n), 0);
            Edges.due("nth of none", x.nth(n, 0), NONE);
        }
    }

    private static void shareByTheLatest() {
        RowsOfTwo x = Check.withText("p=1");
        Edges.fraction("PATTERN 1 by 8", x.share(1, 0), x.share(1, 1), 1, 2);
        x.set(0, 3);
        Edges.fraction("PATTERN 1 by 3", x.share(1, 0), x.share(1, 1), 3, 16);
        x.set(1, 2);
        Edges.fraction("PATTERN 0 by 3", x.share(1, 0), x.share(1, 1), 13, 16);
        x.set(1, 4);
        Edges.fraction("PATTERN 00 by 3", x.share(1, 0), x.share(1, 1), 0, 1);
        x.set(0, 16);
        x.set(1, 128);
        Edges.fraction("behind refused ones", x.share(2, 0), x.share(2, 1), 169, 256);
        x.wipe();
        Edges.due("behind wipe", x.share(2, 0), Check.NOT_LONG);
    }

    private static int binomial(int n, int k) {
        int ways = 1;
        for (int i = 1; i <= k; i++) {
            ways = ways * (n - k + i) / i;
        }
        return ways;
    }

    private static void inOrder() {
        RowsOfTwo x = Check.withText("o=1|o=2");
        String[] rows = {"001", "010", "011", "100", "101", "110"};
        for (int i = 0; i < rows.length; i++) {
            Edges.due("nth(3, " + i + ")", x.nth(3, i), Integer.parseInt("1" + rows[i], 2));
        }
        Edges.due("nth(3, 6)", x.nth(3, 6), NONE);
    }

    private static void fillsKeepWhatWasSeen() {
        RowsOfTwo x = Check.withRow("1?????????????0");
        Edges.due("13 not seen", x.fills(0, 0), 8192);
        Check.text(x, "f=0");
        Edges.due("the hit that was seen stays", x.fills(0, 1), 8192);
        Check.text(x, "o=15");
        Edges.due("the miss that was seen stays", x.fills(0, 1), 0);
        Check.text(x, "o=14");
        Edges.due("all others hits", x.fills(0, 1), 1);
        Check.signs(x, 0, "1");
        Edges.due("all seen", x.fills(0, 0), 1);
        Check.signs(x, 0, "");
        Edges.due("no signs", x.fills(0, 0), 1);
    }

    private static void sureSigns() {
        sure("1?0?", "o>0", 1, NONE, 0, NONE);
        sure("1?0?", "o=2", 1, NONE, 0, NONE);
        sure("1?0?", "o=3", 1, 1, 0, 1);
        sure("1?0?", "o=1", 1, 0, 0, 0);
        sure("1?0?", "o=0", NOT, NOT, NOT, NOT);
        sure("?1?", "r=1", 1, 1, 1);
        sure("?1?", "r=2", NONE, 1, NONE);
        sure("?1?", "r=3", 0, 1, 0);
    }

    private static void sure(String signs, String text, int... want) {
        RowsOfTwo x = Check.withText(text);
        Check.signs(x, 0, signs);
        for (int i = 0; i < want.length; i++) {
            Edges.due("sure(0, " + i + ") of " + signs + ", " + text, x.sure(0, i), want[i]);
        }
    }

    private static void dealtAreAsMany() {
        for (int length = 1; length <= 15; length++) {
            // With one hit there are as many DEALT rows as signs.
            RowsOfTwo x = Check.withRow("1" + "0".repeat(length - 1));
            Edges.due("one hit of " + length, x.dealt(0, 5, false), MILLION / length);
            // With one miss too: of all of them one alone has it ahead of the first hit.
            RowsOfTwo y = Check.withRow("0" + "1".repeat(length - 1));
            Edges.due("one miss of " + length, y.dealt(0, 5, true), MILLION / length);
        }
        Edges.due("no signs", new RowsOfTwo().dealt(0, 0, true), MILLION);
    }

    private static void sharesRoundedDown() {
        Edges.due("1 by 3", Check.withRow("100").dealt(0, 5, false), 333333);
        Edges.due("2 by 3", Check.withRow("010").dealt(0, 5, false), 666666);
        Edges.due("3 by 3", Check.withRow("001").dealt(0, 5, false), MILLION);
        Edges.due("1 by 7", Check.withRow("1000000").dealt(0, 5, false), 142857);
        Edges.due("6 by 7", Check.withRow("0000010").dealt(0, 5, false), 857142);
        Edges.due("1 by 6435", Check.withRow("101010101010101").dealt(0, 1, true), 155);
        Edges.due("15 by 6435", Check.withRow("110101010101010").dealt(0, 1, true), 2331);
        Edges.due("6434 by 6435", Check.withRow("110101010101010").dealt(0, 1, false), 999844);
    }

    private static void likeNumbersCount() {
        // One hit in five, at places 0 to 4: the place itself counts for both.
        for (int place = 0; place < 5; place++) {
            RowsOfTwo x = Check.withRow("0".repeat(place) + "1" + "0".repeat(4 - place));
            Edges.due("no more than " + place, x.dealt(0, 5, false), (place + 1) * 200000);
            Edges.due("no less than " + place, x.dealt(0, 5, true), (5 - place) * 200000);
            Edges.due("no more hits", x.dealt(0, 0, false), MILLION);
            Edges.due("no less hits", x.dealt(0, 0, true), MILLION);
        }
    }

    private static void strangest(String signs, int pattern, int want) {
        RowsOfTwo x = Check.withRow(signs);
        x.set(1, pattern);
        Edges.due("strangest of " + signs + ", PATTERN " + pattern, x.strangest(0), want);
    }

    private static void strangestOfLikeOnes() {
        // One alone has the least share (of 6 the like one is 8).
        strangest("0011", 2, 2);
        strangest("00101", 2, 3);
        strangest("00100", 2, 4);
        strangest("10001", 2, 5);
        strangest("1001", 2, 6);
        strangest("0010111", 2, 7);
        strangest("1001011", 2, 8);
        strangest("01101110", 2, 9);
        strangest("01", 6, 12);
        strangest("01", 5, 13);
        // FEW ahead of MUCH of one number: 2, 3 and 4 are like ones; all ten are.
        strangest("001011", 2, 2);
        strangest("0", 3, 2);
        // MUCH of the first number ahead of FEW of another: 3 and 4, 3 and 8, 5 and 12, 7 and 12.
        strangest("010", 2, 3);
        strangest("101010101010101", 3, 3);
        strangest("0000010", 36, 5);
        strangest("0110", 4, 7);
        // The place of the first hit would be stranger, but is not asked.
        strangest("100", 3, 2);
        strangest("001", 3, 2);
    }

    private static void hotOneAfterTheOther() {
        RowsOfTwo x = Check.withRow("11110111101110");
        long[][] want = {{8, 11}, {5, 8}, {2, 5}, {0, 1}};
        for (int k = 1; k <= 4; k++) {
            Edges.fraction("hot " + k, x.hot(0, k, 0), x.hot(0, k, 1), want[k - 1][0], want[k - 1][1]);
        }
        Check.signs(x, 1, "1010");
        Edges.fraction("hot 1 of 1010", x.hot(1, 1, 0), x.hot(1, 1, 1), 0, 1);
        Edges.due("two hits, but not one after the other", x.hot(1, 2, 0), Check.NOT_LONG);
    }

    private static void alreadyOverThoseThatHave() {
        // 1110 has 1 by 2 behind two hits, 1101 0 by 1, 0111 1 by 1, and 1011 no such sign.
        RowsOfTwo x = Check.withRow("1011");
        Edges.fraction("already 2", x.already(0, 2, 0), x.already(0, 2, 1), 1, 2);
        // 10 has 0 by 1, and 01 no such sign.
        Check.signs(x, 0, "01");
        Edges.fraction("already 1", x.already(0, 1, 0), x.already(0, 1, 1), 0, 1);
        Check.signs(x, 0, "00");
        Edges.due("no row has", x.already(0, 1, 0), Check.NOT_LONG);
    }

    private static void waitsForItsLastSign() {
        RowsOfTwo x = new RowsOfTwo();
        x.set(1, 0b11);
        Edges.fraction("1", x.waits(0), x.waits(1), 2, 1);
        x.set(1, 0b1000000);
        Edges.fraction("000000", x.waits(0), x.waits(1), 126, 1);
        x.set(1, 0b1000001);
        Edges.fraction("000001", x.waits(0), x.waits(1), 64, 1);
        x.set(1, 0b1100001);
        Edges.fraction("100001", x.waits(0), x.waits(1), 66, 1);
    }

    private static void firstOfOneToFourSigns() {
        RowsOfTwo x = new RowsOfTwo();
        Edges.fraction("0 and 1", x.first(2, 3, 0), x.first(2, 3, 1), 1, 2);
        Edges.fraction("0000 and 1111", x.first(16, 31, 0), x.first(16, 31, 1), 1, 2);
        Edges.due("no signs", x.first(1, 3, 0), Check.BAD_LONG);
        Edges.due("no signs", x.first(3, 1, 0), Check.BAD_LONG);
        Edges.due("five signs", x.first(32, 3, 0), Check.BAD_LONG);
        Edges.due("five signs", x.first(3, 32, 0), Check.BAD_LONG);
        Edges.due("1 in 0001", x.first(3, 17, 0), Check.NOT_LONG);
        Edges.due("0001 and 1 in it", x.first(17, 3, 0), Check.NOT_LONG);
        Edges.due("one and the same", x.first(9, 9, 0), Check.NOT_LONG);
    }

    private static void chance(String one, String two, int want) {
        RowsOfTwo x = Check.withRow(one);
        Check.signs(x, 1, two);
        Edges.due("CHANCE of " + one + " and " + two, x.agree(0, 1, 1), want);
    }

    private static void chanceRoundedDown() {
        chance("100", "100", 333333);
        chance("110", "100", 666666);
        chance("110", "001", MILLION);
        chance("101010101010101", "101010101010101", 155);
        chance("", "", MILLION);
    }

    private static void twice(String signs, int want) {
        Edges.due("twice of '" + signs + "'", Check.withRow(signs).twice(0), want);
    }

    private static void twiceTheFirstOfThese() {
        twice("", 0);
        twice("0", 0);
        twice("00", 1);
        twice("01", 2);
        twice("000", 0);
        twice("0101", 1);
        twice("0110", 2);
        twice("101101", 1);
        twice("001001", 1);
        twice("001110", 2);
        twice("001100", 3);
        twice("001011", 0);
        twice("001000", 0);
        twice("00100", 0);
        twice("0010011", 0);
    }

    private static void next(String signs, int k, int... want) {
        RowsOfTwo x = Check.withRow(signs);
        for (int what = 0; what < 4; what++) {
            Edges.due("next(0, " + k + ", " + what + ") of " + signs, x.next(0, k, what), want[what]);
        }
    }

    private static void nextOfSignsSeen() {
        next("?", 0, 0, 0, 1, 2);
        next("1?", 0, 1, 1, 2, 3);
        next("1?1", 1, 0, 0, 1, 2);
        next("11?1", 1, 1, 1, 2, 3);
        next("101", 1, 0, 1, 1, 3);
        next("?11", 1, 1, 1, 2, 3);
        next("0111", 2, 1, 1, 2, 3);
        next("1?1111", 2, 2, 2, 3, 4);
        next("11110", 4, 0, 0, 1, 2);
        next("1111", 4, 0, 0, 1, 2);
        next("11111", 4, 1, 1, 2, 3);
        next("111101111", 4, 0, 1, 1, 3);
        next("01111?01111", 4, 0, 0, 1, 2);
    }

    private static void nextInLowestTerms() {
        next("", 0, 0, 0, 1, 2);
        next("0", 0, 0, 1, 1, 3);
        next("1", 0, 1, 1, 2, 3);
        next("00", 0, 0, 2, 1, 4);
        next("10", 0, 1, 2, 1, 2);
        next("11", 0, 2, 2, 3, 4);
        next("1000", 0, 1, 4, 1, 3);
        next("111111111111111", 0, 15, 15, 16, 17);
        next("000000000000000", 0, 0, 15, 1, 17);
    }

    // ---- refusals

    private static void noSuchRow() {
        Edges.range("sign", 0, 3, Edges::whole, (x, row) -> x.sign(row, 1), BAD);
        Edges.range("read", 0, 3, Edges::whole, (x, row) -> x.read(0, row), BAD);
        Edges.range("clear", 0, 3, Edges::whole, (x, row) -> x.clear(row), BAD);
        Edges.range("at", 0, 3, Edges::whole, (x, row) -> x.at(row, 0), BAD);
        Edges.range("shows", 0, 3, Edges::whole, (x, row) -> x.shows(row, 0), BAD);
        Edges.range("holds", 0, 3, Edges::whole, (x, row) -> x.holds(row), BAD);
        Edges.range("fills", 0, 3, Edges::whole, (x, row) -> x.fills(row, 0), BAD);
        Edges.range("filled", 0, 3, Edges::whole, (x, row) -> x.filled(row, 0), Check.BAD_LONG);
        Edges.range("sure", 0, 3, Edges::whole, (x, row) -> x.sure(row, 0), BAD);
        Edges.range("dealt", 0, 3, Edges::whole, (x, row) -> x.dealt(row, 0, true), BAD);
        Edges.range("strangest", 0, 3, Edges::whole, (x, row) -> x.strangest(row), BAD);
        Edges.range("hot", 0, 3, Edges::whole, (x, row) -> x.hot(row, 1, 0), Check.BAD_LONG);
        Edges.range("already", 0, 3, Edges::whole, (x, row) -> x.already(row, 1, 0), Check.BAD_LONG);
        Edges.range("agree", 0, 3, Edges::whole, (x, row) -> x.agree(row, 1, 0), BAD);
        Edges.range("agree, other", 0, 3, Edges::whole, (x, row) -> x.agree(1, row, 0), BAD);
        Edges.range("twice", 0, 3, Edges::whole, (x, row) -> x.twice(row), BAD);
        Edges.range("next", 0, 3, Edges::whole, (x, row) -> x.next(row, 1, 0), BAD);
        Edges.range("write", 0, 3, Edges::whole, (x, row) -> x.write(row, 0), BAD);
    }

    private static void refusalsInOrder() {
        Edges.refused("BAD ahead of NULL", Edges::rich, x -> x.read(3, 4), BAD);
        Edges.refused("BAD ahead of NOT", Edges::faulty, x -> x.holds(4), BAD);
        Edges.refused("BAD ahead of FULL", Edges::rich, x -> x.sign(2, 2), BAD);
        Edges.refused("BAD ahead of SIZE", Edges::rich, x -> x.sheet(4, 0, -1), BAD);
        Edges.refused("BAD ahead of CAST", Edges::rich, x -> x.put(0, 3, 0, 0), BAD);
        Edges.refused("NULL ahead of CAST and INDEX", Edges::rich, x -> x.put(3, 1, -1, 0), NULL);
        Edges.refused("NULL ahead of STORE and INDEX", Edges::rich, x -> x.copy(3, -1, 1, 0, 1), NULL);
        Edges.refused("CAST ahead of INDEX", Edges::rich, x -> x.put(0, 1, -1, 0), CAST);
        Edges.refused("STORE ahead of INDEX", Edges::rich, x -> x.copy(0, -1, 1, 0, 1), STORE);
    }

    private static void faultWhereSentencesAreNeeded() {
        Edges.refused("holds", Edges::faulty, x -> x.holds(0), NOT);
        Edges.refused("shown", Edges::faulty, x -> x.shown(3, NONE), NOT);
        Edges.refused("nth", Edges::faulty, x -> x.nth(3, 0), NOT);
        Edges.refused("share", Edges::faulty, x -> x.share(3, 0), Check.NOT_LONG);
        Edges.refused("fills 1", Edges::faulty, x -> x.fills(0, 1), NOT);
        Edges.refused("filled", Edges::faulty, x -> x.filled(0, 0), Check.NOT_LONG);
        Edges.refused("sure", Edges::faulty, x -> x.sure(0, 0), NOT);
        RowsOfTwo x = Edges.after(Edges::faulty);
        Edges.due("fills 0 needs none", x.fills(1, 0), 2);
        Edges.due("shows needs none", x.shows(0, 0), 3);
        Edges.due("dealt needs none", x.dealt(0, 0, true), MILLION);
        Edges.due("strangest needs none", x.strangest(0), 3);
        Edges.due("hot needs none", x.hot(0, 1, 1), 2);
        Edges.due("already needs none", x.already(0, 3, 0), 0);
        Edges.due("waits needs none", x.waits(1), 55);
        Edges.due("twice needs none", x.twice(0), 0);
        Edges.due("next needs none", x.next(0, 0, 1), 4);
    }

    private static void notWholeWhereItMustBe() {
        Edges.refused("shows", Edges::rich, x -> x.shows(1, 0), NOT);
        Edges.refused("holds", Edges::rich, x -> x.holds(1), NOT);
        Edges.refused("dealt", Edges::rich, x -> x.dealt(1, 0, false), NOT);
        Edges.refused("strangest", Edges::rich, x -> x.strangest(1), NOT);
        Edges.refused("hot", Edges::rich, x -> x.hot(1, 1, 0), Check.NOT_LONG);
        Edges.refused("already", Edges::rich, x -> x.already(1, 1, 0), Check.NOT_LONG);
        Edges.refused("agree", Edges::rich, x -> x.agree(1, 0, 0), NOT);
        Edges.refused("twice", Edges::rich, x -> x.twice(1), NOT);
        RowsOfTwo x = Edges.after(Edges::rich);
        Edges.due("at may be", x.at(1, 1), NONE);
        Edges.due("fills may be", x.fills(1, 1), 2);
        Edges.due("filled may be", x.filled(1, 0), 1);
        Edges.due("sure may be", x.sure(1, 1), NONE);
        Edges.due("next may be", x.next(1, 1, 1), 0);
        Edges.due("write may be", x.write(1, 0), 3);
    }

    private static void refusalsChangeNothing() {
        Edges.refused("BAD", Edges::rich, x -> x.sign(0, 2), BAD);
        Edges.refused("NULL", Edges::rich, x -> x.read(3, 0), NULL);
        Edges.refused("NOT", Edges::rich, x -> x.at(0, 4), NOT);
        Edges.refused("FULL", Edges::rich, x -> x.sign(2, 1), FULL);
        Edges.refused("INDEX", Edges::rich, x -> x.copy(2, 0, 2, 2, 3), INDEX);
        Edges.refused("CAST", Edges::rich, x -> x.put(1, 0, 0, 9), CAST);
        Edges.refused("STORE", Edges::rich, x -> x.copy(0, 0, 2, 0, 1), STORE);
        Edges.refused("SIZE", Edges::rich, x -> x.sheet(0, 1, -1), SIZE);
    }

    private static void refusalsAsLongs() {
        long least = -9223372036854775808L;
        Edges.refused("share BAD", Edges::rich, x -> x.share(16, 0), least + 2);
        Edges.refused("share NOT", Edges::faulty, x -> x.share(15, 0), least + 3);
        Edges.refused("filled BAD", Edges::rich, x -> x.filled(4, 0), least + 2);
        Edges.refused("filled NOT", Edges::faulty, x -> x.filled(3, 0), least + 3);
        Edges.refused("hot BAD", Edges::rich, x -> x.hot(0, 5, 0), least + 2);
        Edges.refused("hot NOT", Edges::rich, x -> x.hot(0, 3, 0), least + 3);
        Edges.refused("already BAD", Edges::rich, x -> x.already(0, 0, 0), least + 2);
        Edges.refused("already NOT", Edges::rich, x -> x.already(0, 4, 0), least + 3);
        Edges.refused("waits BAD", Edges::rich, x -> x.waits(2), least + 2);
        Edges.refused("first BAD", Edges::rich, x -> x.first(32, 2, 0), least + 2);
        Edges.refused("first NOT", Edges::rich, x -> x.first(2, 2, 0), least + 3);
    }
}
