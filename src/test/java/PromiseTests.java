import java.util.NoSuchElementException;

/** For each promise of the document: ordinary inputs, the edges that it names, wrong inputs. */
public final class PromiseTests {
    private static int wrong = 0;
    private static int promise = 0;
    private static int due = 0;

    private static final String PATH_AND_PAIR =
            "folk ann of 1; folk bob of 1; folk cid of 1; folk dan of 2; folk eve of 2; folk fay of 2;"
            + "near ann bob; near bob cid; near dan eve;";
    private static final String FOUR_EACH =
            "folk a of 1; folk b of 1; folk c of 1; folk d of 1; folk e of 2; folk f of 2; folk g of 2; folk h of 2;";
    private static final String THREE_AND_FOUR =
            "folk a of 1; folk b of 1; folk c of 1; folk e of 2; folk f of 2; folk g of 2; folk h of 2;";
    private static final int THROWS = -1000;

    public static void main(String[] args) {
        newObject();
        feed();
        townsFaults();
        oldSigns();
        townsReset();
        claimFaults();
        claimLimits();
        folk();
        point();
        foundOutByChanges();
        paint();
        link();
        undo();
        left();
        hint();
        reply();
        rounds();
        sided();
        keeps();
        hands();
        colours();
        waysSelvesOrbit();
        mend();
        elders();
        farGroupsLonerMost();
        farOff();
        measure();
        soAndParts();
        models();
        reportLostSure();
        rests();
        plays();
        marks();
        count();
        System.out.println(due + " answers looked at, " + wrong + " wrong");
        if (wrong != 0) {
            System.exit(1);
        }
    }

    // ---- helpers ----

    private static void due(String call, long got, long want) {
        due++;
        if (got != want) {
            wrong++;
            System.out.println("promise " + promise + ": " + call + " answered " + got + ", due is " + want);
        }
    }

    private static void due(String call, boolean got, boolean want) {
        due(call, got ? 1 : 0, want ? 1 : 0);
    }

    private static int feed(TwoTowns x, String text) {
        int answer = x.feed(0, 0, 0);
        for (int i = 0; i < text.length(); i += 24) {
            long[] word = new long[3];
            for (int k = 0; k < 24; k++) {
                int sign = i + k < text.length() ? text.charAt(i + k) : 0;
                word[k / 8] = word[k / 8] << 8 | sign & 255;
            }
            answer = x.feed(word[0], word[1], word[2]);
        }
        return answer;
    }

    private static TwoTowns told(String text) {
        TwoTowns x = new TwoTowns();
        feed(x, text);
        due("towns() of " + text, x.towns(), 0);
        return x;
    }

    private static void say(TwoTowns x, String claim) {
        feed(x, claim);
        due("claim() of " + claim, x.claim(), 0);
    }

    private static void fault(String text, int kind, int place) {
        TwoTowns x = new TwoTowns();
        feed(x, text);
        due("towns() of '" + text + "'", x.towns(), kind + 16 * place);
        due("count(11) behind it", x.count(11), 0);
    }

    /** The first wrong token is the last one that starts with this sign sequence. */
    private static void faultAtLast(String text, String token, int kind) {
        fault(text, kind, text.lastIndexOf(token));
    }

    private static void claimFault(String text, int kind, int place) {
        TwoTowns x = new TwoTowns();
        feed(x, text);
        due("claim() of '" + text + "'", x.claim(), kind + 16 * place);
        due("count(11) behind it", x.count(11), 0);
        due("count(8) behind it", x.count(8), 0);
    }

    private static int rest(TwoTowns x, int both, int loses, int gets, int what) {
        try {
            return x.rests(both, loses, gets, what);
        } catch (NoSuchElementException e) {
            return THROWS;
        }
    }

    private static String times(String text, int many) {
        return text.repeat(many);
    }

    // ---- 1 to 4: what is told ----

    private static void newObject() {
        promise = 1;
        TwoTowns x = new TwoTowns();
        for (int what = 0; what < 12; what++) {
            due("count(" + what + ") of a new one", x.count(what), 0);
        }
        due("NONE", TwoTowns.NONE, -1);
        due("left()", x.left(), -1);
        due("undo()", x.undo(), false);
        due("lost(0)", x.lost(0), 75);
        for (int i = 0; i < 4; i++) {
            due("mark(" + i + ", true)", x.mark(i, true), false);
        }
    }

    private static void feed() {
        promise = 2;
        TwoTowns x = new TwoTowns();
        due("nothing", x.feed(0, 0, 0), 0);
        due("a blank alone, last", x.feed(0, 0, 32), 1);
        due("a new line alone, first", x.feed(10L << 56, 0, 0), 2);
        due("others are left out", x.feed(0x7F80FF1F0B090D01L, -1, 0x7EL << 56), 3);
        x = new TwoTowns();
        due("31, 127, 9, 11 are left out", x.feed(0x1F7F090B00000000L, 0, 0), 0);
        due("32, 126, 10 are not", x.feed(0x207E0A0000000000L, 0, 0), 3);
        x = new TwoTowns();
        for (int i = 1; i <= 41; i++) {
            due("24 signs again", x.feed(0x2020202020202020L, 0x2020202020202020L, 0x2020202020202020L), 24L * i);
        }
        due("992", x.feed(0x2020202020202020L, 0, 0), 992);
        due("beyond 1,000", x.feed(0x2020202020202020L, 0x6161616161616161L, 0), 1000);
        due("beyond 1,000 again", x.feed(0x6161616161616161L, 0, 0), 1000);
        due("count(11)", x.count(11), 1000);
        due("all beyond is left out", x.towns(), 0);
        due("it is taken", x.count(11), 0);
        promise = 2;
        x = new TwoTowns();
        due("the highest byte first", x.feed(0x666F6C6B2061206FL, 0x66203120203B0000L, 0), 14);
        due("towns()", x.towns(), 0);
        due("count(0)", x.count(0), 1);
    }

    private static void townsFaults() {
        promise = 3;
        fault("", 0, 0);
        fault(" \n ", 0, 0);
        fault("folk a of 1;folk b of 2;near", 1, 28);
        fault("folk", 1, 4);
        fault("folk  \n", 1, 7);
        faultAtLast("ann", "ann", 1);
        faultAtLast(" ;", ";", 1);
        faultAtLast("of", "of", 1);
        faultAtLast("not", "not", 1);
        faultAtLast("1", "1", 1);
        for (String word : "folk of baker widow near owes not and or some all two same x y z u".split(" ")) {
            fault("folk " + word + " of 1 ;", 1, 5);
        }
        fault("folk abcdefgh of 1 ;", 0, 0);
        fault("folk abcdefghi of 1 ;", 1, 5);
        fault("folk xx of 1;folk of1;", 1, 18);
        faultAtLast("folk Ann of 1 ;", "Ann", 1);
        faultAtLast("folk an-n of 1 ;", "-", 1);
        faultAtLast("folk 7 of 1 ;", "7", 1);
        faultAtLast("folk ann off 1 ;", "off", 1);
        faultAtLast("folk ann 1 ;", "1", 1);
        faultAtLast("folk ann of one ;", "one", 1);
        faultAtLast("folk ann of ;", ";", 1);
        faultAtLast("folk ann of 0 ;", "0", 4);
        faultAtLast("folk ann of 3 ;", "3", 4);
        faultAtLast("folk ann of 9999 ;", "9999", 4);
        faultAtLast("folk ann of 10001 ;", "10001", 1);
        fault("folk ann of1;folk bob of 0002;", 0, 0);
        faultAtLast("folk ann of 1 folk", "folk", 1);
        faultAtLast("folk ann of 1b;", "b", 1);
        faultAtLast("folk ann of 1;folk ann of 2;", "ann", 3);
        faultAtLast("folk ann of 1;folk bob of 2;folk ann", "ann", 3);
        faultAtLast(FOUR_EACH + "folk i of 1;", "1", 5);
        faultAtLast(FOUR_EACH + "folk i of 2;", "2", 5);
        faultAtLast(FOUR_EACH + "folk i of 3;", "3", 4);
        faultAtLast(FOUR_EACH + "folk a of 1;", "a of", 3);
        marksAndLinksFaults();
    }

    private static void marksAndLinksFaults() {
        String three = "folk aa of 1;folk bb of 1;folk cc of 2;";
        for (String verb : new String[] {"baker", "widow"}) {
            faultAtLast(three + verb + " dd;", "dd", 2);
            faultAtLast(three + verb + " x;", "x", 1);
            faultAtLast(three + verb + " 1;", "1", 1);
            faultAtLast(three + verb + " aa aa;", "aa", 1);
            faultAtLast(three + verb + " aa;" + verb + " bb;" + verb + " aa;", "aa", 3);
            fault(three + verb + " aa", 1, three.length() + 8);
        }
        fault(three + "baker aa;widow aa;", 0, 0);
        for (String verb : new String[] {"near", "owes"}) {
            faultAtLast(three + verb + " dd aa;", "dd", 2);
            faultAtLast(three + verb + " same aa;", "same", 1);
            faultAtLast(three + verb + " aa dd;", "dd", 2);
            faultAtLast(three + verb + " aa u;", "u", 1);
            faultAtLast(three + verb + " aa aa;", "aa;", 3);
            faultAtLast(three + verb + " aa cc;", "cc", 3);
            faultAtLast(three + verb + " cc bb;", "bb", 3);
            faultAtLast(three + verb + " aa bb;" + verb + " aa bb;", "bb", 3);
            faultAtLast(three + verb + " aa;", ";", 1);
            faultAtLast(three + verb + " aa bb cc;", "cc", 1);
        }
        faultAtLast(three + "near aa bb;near bb aa;", "aa", 3);
        fault(three + "owes aa bb;owes bb aa;near bb aa;", 0, 0);
        faultAtLast("baker aa;folk aa of 1;", "aa;", 2);
    }

    /** What was on the tape before is not read again. */
    private static void oldSigns() {
        promise = 3;
        TwoTowns x = new TwoTowns();
        feed(x, times("1", 24));
        due("a long number", x.towns(), 1);
        feed(x, "folk a of 1");
        due("the end behind a number", x.towns(), 1 + 16 * 11);
        feed(x, times("x", 24));
        due("a long word", x.towns(), 1);
        feed(x, "folk a");
        due("the end behind a name", x.towns(), 1 + 16 * 6);
        feed(x, times(" ", 11) + ";");
        due("a sign behind blanks", x.towns(), 1 + 16 * 11);
        feed(x, "folk a of 1");
        due("the end again", x.towns(), 1 + 16 * 11);
        promise = 4;
        feed(x, "some x baker xx");
        due("another word", x.claim(), 1 + 16 * 13);
        feed(x, "some x baker x");
        due("a claim", x.claim(), 0);
    }

    private static void townsReset() {
        promise = 3;
        TwoTowns x = told(PATH_AND_PAIR);
        say(x, "some x baker x");
        x.report(true);
        x.paint(0, 0, 1);
        x.point(0, 1, 1);
        x.mark(2, false);
        feed(x, "folk a of 2; folk b of");
        due("a fault", x.towns(), 1 + 16 * 22);
        due("all stays: folk", x.count(0), 3);
        due("all stays: pairs", x.count(2), 1);
        due("all stays: widows", x.count(6), 1);
        due("all stays: the claim", x.count(8), 1);
        due("all stays: reported", x.count(9), 1);
        due("all stays: undo", x.count(10), 2);
        due("all stays: marks", x.mark(2, true), true);
        feed(x, "folk a of 2;");
        due("towns()", x.towns(), 0);
        int[] after = {0, 1, 0, 0, 0, 0, 0, 0, 0, 0, 0, 0};
        for (int what = 0; what < 12; what++) {
            due("new towns, count(" + what + ")", x.count(what), after[what]);
        }
        due("nothing can be undone", x.undo(), false);
        due("no mark", x.mark(2, true), false);
        due("nothing reported", x.lost(0), 75);
        due("an empty tape is towns", x.towns(), 0);
        due("of nobody", x.count(1), 0);
    }

    private static void claimFaults() {
        promise = 4;
        claimFault("", 1, 0);
        claimFault("  ", 1, 2);
        claimFault("x", 1, 0);
        claimFault("folk", 1, 0);
        claimFault("of", 1, 0);
        claimFault("7", 1, 0);
        claimFault("ann", 1, 0);
        claimFault("not", 1, 3);
        claimFault("not ;", 1, 4);
        claimFault("some", 1, 4);
        claimFault("some v baker v", 1, 5);
        claimFault("some not x", 1, 5);
        claimFault("some x", 1, 6);
        claimFault("some x x", 1, 7);
        claimFault("baker x", 2, 6);
        claimFault("baker w", 1, 6);
        claimFault("all x baker y", 2, 12);
        claimFault("all x near y x", 2, 11);
        claimFault("all x near x y", 2, 13);
        claimFault("all x owes x", 1, 12);
        claimFault("all x same x z", 2, 13);
        claimFault("all x same x same", 1, 13);
        claimFault("all x and baker x", 1, 17);
        claimFault("and some x baker x baker x", 2, 25);
        claimFault("or some x baker x some y widow x", 2, 31);
        claimFault("all x baker x ;", 1, 14);
        claimFault("all x baker x baker x", 1, 14);
        claimFault("all x baker x 5", 1, 14);
        claimFault("all xx baker x", 1, 4);
        claimFault("all x\nbaker\n X", 1, 13);
        claimFault("some x widow x~", 1, 14);
    }

    private static void claimLimits() {
        promise = 4;
        claimFault(times("not ", 7) + "some x baker x", 5, 35);
        claimFault(times("not ", 8), 1, 32);
        claimFault(times("not ", 8) + "x", 1, 32);
        claimFault(times("not ", 8) + "baker x", 5, 32);
        TwoTowns x = new TwoTowns();
        say(x, times("not ", 6) + "some x baker x");
        due("eight S's, one within the other", x.measure(2), 8);
        String longest = "all x " + sentence(59);
        say(x, longest);
        due("60 S's", x.measure(2), 60);
        claimFault(longest + " baker x", 1, longest.length() + 1);
        String longer = "all x " + sentence(60);
        int last = longer.lastIndexOf("baker");
        claimFault(longer, 5, last);
        claimFault(longer.substring(0, last) + "of x", 1, last);
        claimFault(longer.substring(0, last), 1, last);
        say(x, "some x some x baker x");
        feed(x, "nothing");
        due("a fault", x.claim(), 1);
        due("all stays", x.measure(2), 3);
        due("the tape is taken", x.count(11), 0);
    }

    /** So many S's, few within one another. */
    private static String sentence(int length) {
        if (length <= 2) {
            return length == 2 ? "not baker x" : "baker x";
        }
        int first = (length - 1) / 2;
        return "and " + sentence(first) + " " + sentence(length - 1 - first);
    }

    // ---- 5 to 9: folk and the game by hand ----

    private static void folk() {
        promise = 5;
        TwoTowns x = told(FOUR_EACH + "baker a;widow h;near a d;near d c;owes b a;owes b c;owes c b;");
        int[][] want = {{1, 0, 8, 0, 2, -1}, {0, 0, 0, 5, 4, -1}, {0, 0, 8, 2, 2, -1}, {0, 0, 5, 0, 0, -1}};
        for (int who = 0; who < 4; who++) {
            for (int what = 0; what < 6; what++) {
                due("folk(0, " + who + ", " + what + ")", x.folk(0, who, what), want[who][what]);
            }
        }
        due("a widow", x.folk(1, 3, 1), 1);
        due("no baker", x.folk(1, 3, 0), 0);
        x.point(0, 1, 2);
        due("a pair", x.folk(0, 1, 5), 2);
        due("a pair, from there", x.folk(1, 2, 5), 1);
        due("none", x.folk(1, 1, 5), -1);
        due("what 6", x.folk(0, 0, 6), -2);
        due("what -1", x.folk(0, 0, -1), -2);
        due("no such one", x.folk(0, 4, 0), -2);
        due("no such one", x.folk(0, -1, 0), -2);
        due("no such town", x.folk(2, 0, 0), -2);
        due("no such town", x.folk(-1, 0, 0), -2);
        due("far off", x.folk(0, Integer.MAX_VALUE, Integer.MIN_VALUE), -2);
        TwoTowns y = told("folk a of 1;");
        due("no such one in a small town", y.folk(0, 1, 5), -2);
        due("nobody in the other", y.folk(1, 0, 5), -2);
    }

    private static void point() {
        promise = 6;
        TwoTowns x = told(PATH_AND_PAIR);
        due("no such town", x.point(2, 0, 0), -1);
        due("no such one", x.point(0, 3, 0), -1);
        due("no such one back", x.point(0, 0, 3), -1);
        due("no such one back", x.point(0, 0, -2), -1);
        due("somebody is left", x.point(0, 0, -1), -1);
        due("nothing done", x.count(10), 0);
        due("from the other town", x.point(1, 1, 0), 1);
        due("ann is with eve", x.folk(0, 0, 5), 1);
        due("in a pair", x.point(0, 0, 2), -1);
        due("back in a pair", x.point(0, 1, 1), -1);
        due("not alike", x.point(0, 1, 2), 0);
        due("a pair all the same", x.count(2), 2);
        due("found out", x.count(3), 1);
        due("nobody points any more", x.point(0, 2, 0), -1);
        TwoTowns y = told(THREE_AND_FOUR);
        for (int i = 0; i < 3; i++) {
            due("alike", y.point(i % 2, i, i), 1);
        }
        due("back is in a pair", y.point(1, 3, 0), -1);
        due("back is nobody there", y.point(1, 3, 3), -1);
        due("nobody is left", y.point(1, 3, -1), 0);
        due("no pair of it", y.count(2), 3);
        due("found out", y.count(3), 1);
        y.paint(1, 3, 0);
        y.link(1, 3, 0, 1);
        due("it stays so", y.count(3), 1);
        due("left() is 0", y.left(), 0);
        TwoTowns z = told(FOUR_EACH + "owes a b;owes f e;");
        due("one", z.point(0, 0, 0), 1);
        due("owes the other way", z.point(0, 1, 1), 0);
        TwoTowns w = told("folk a of 1;folk b of 2;baker a;widow b;");
        due("unlike marks", w.point(0, 0, 0), 0);
    }

    private static void foundOutByChanges() {
        promise = 6;
        TwoTowns x = told(FOUR_EACH);
        x.point(0, 0, 0);
        x.point(1, 1, 1);
        due("not yet", x.count(3), 0);
        x.link(0, 1, 0, 0);
        due("not alike by a link", x.count(3), 1);
        due("nobody points", x.point(0, 2, 2), -1);
        due("left()", x.left(), 0);
        due("hint()", x.hint(), -1);
        due("reply()", x.reply(0, 2), -1);
        x.link(1, 0, 1, 0);
        due("alike again", x.count(3), 0);
        due("one points again", x.point(0, 2, 2), 1);
        x.paint(1, 2, 1);
        due("not alike by a mark", x.count(3), 1);
        x.paint(0, 3, 1);
        due("one in no pair does not matter", x.count(3), 1);
        x.paint(0, 2, 1);
        due("alike again", x.count(3), 0);
    }

    private static void paint() {
        promise = 7;
        TwoTowns x = told(THREE_AND_FOUR);
        due("baker", x.paint(0, 2, 0), true);
        due("count(4)", x.count(4), 4);
        due("widow", x.paint(1, 3, 1), true);
        due("count(7)", x.count(7), 8);
        due("no more", x.paint(0, 2, 0), true);
        due("count(4)", x.count(4), 0);
        due("what 2", x.paint(0, 0, 2), false);
        due("what -1", x.paint(0, 0, -1), false);
        due("no such one", x.paint(0, 3, 0), false);
        due("no such one", x.paint(0, -1, 0), false);
        due("no such town", x.paint(2, 0, 0), false);
        due("three done", x.count(10), 3);
    }

    private static void link() {
        promise = 8;
        TwoTowns x = told(THREE_AND_FOUR);
        due("near", x.link(0, 2, 0, 0), true);
        due("both ways", x.folk(0, 0, 2), 4);
        due("both ways", x.folk(0, 2, 2), 1);
        due("no more, told the other way", x.link(0, 0, 2, 0), true);
        due("none", x.folk(0, 0, 2), 0);
        due("none", x.folk(0, 2, 2), 0);
        due("owes", x.link(1, 3, 1, 1), true);
        due("one way", x.folk(1, 3, 3), 2);
        due("one way", x.folk(1, 1, 3), 0);
        due("is owed", x.folk(1, 1, 4), 8);
        due("owes back", x.link(1, 1, 3, 1), true);
        due("both now", x.folk(1, 3, 3), 2);
        due("the same", x.link(0, 1, 1, 0), false);
        due("the same", x.link(0, 1, 1, 1), false);
        due("no such one", x.link(0, 0, 3, 0), false);
        due("no such one", x.link(0, 3, 0, 0), false);
        due("no such one", x.link(0, -1, 0, 0), false);
        due("no such town", x.link(-1, 0, 1, 0), false);
        due("what 2", x.link(0, 0, 1, 2), false);
        due("what -1", x.link(0, 0, 1, -1), false);
        due("four done", x.count(10), 4);
    }

    private static void undo() {
        promise = 9;
        TwoTowns x = told(THREE_AND_FOUR);
        due("nothing", x.undo(), false);
        x.paint(0, 0, 1);
        x.link(0, 0, 1, 0);
        x.link(1, 0, 3, 1);
        x.point(0, 2, 1);
        x.point(1, 2, 1);
        x.point(1, 3, 0);
        due("found out", x.count(3), 1);
        due("a round", x.undo(), true);
        due("not found out", x.count(3), 0);
        due("two pairs", x.count(2), 2);
        due("who was in it", x.folk(1, 3, 5), -1);
        x.undo();
        x.undo();
        due("no pair", x.count(2), 0);
        due("a debt", x.undo(), true);
        due("none", x.folk(1, 0, 3), 0);
        due("neighbours", x.undo(), true);
        due("none", x.folk(0, 1, 2), 0);
        due("a widow", x.undo(), true);
        due("none", x.count(6), 0);
        due("nothing", x.undo(), false);
        for (int i = 0; i < 20; i++) {
            x.paint(1, i % 4, i / 4 % 2);
        }
        due("the last 16", x.count(10), 16);
        int back = 0;
        while (back < 100 && x.undo()) {
            back++;
        }
        due("16 can be", back, 16);
        due("the first four stay", x.count(5), 15);
        due("widows are gone", x.count(7), 0);
        x = told("folk a of 1;");
        x.point(0, 0, -1);
        due("found out", x.count(3), 1);
        due("nobody left, undone", x.undo(), true);
        due("not found out", x.count(3), 0);
        due("once more", x.point(0, 0, -1), 0);
        say(x, "some x baker x");
        x.report(true);
        x.undo();
        due("a claim stays", x.count(8), 1);
        due("a report stays", x.count(9), 1);
    }

    // ---- 10 to 16: how soon it is found out ----

    private static void left() {
        promise = 10;
        TwoTowns x = told(PATH_AND_PAIR);
        due("from no pairs", x.left(), 2);
        x.point(0, 0, 0);
        due("behind one", x.left(), 2);
        x.point(0, 2, 1);
        due("found out", x.left(), 0);
        x.undo();
        x.point(0, 2, 2);
        due("one is left", x.left(), 1);
        x = told("folk a of 1;folk b of 2;folk c of 2;");
        due("two rounds", x.left(), 2);
        x.point(0, 0, 1);
        due("one round", x.left(), 1);
        x = told(FOUR_EACH);
        due("never", x.left(), -1);
        for (int i = 0; i < 4; i++) {
            x.point(0, i, 3 - i);
        }
        due("all are in pairs", x.left(), -1);
        due("not found out", x.count(3), 0);
    }

    private static void hint() {
        promise = 11;
        TwoTowns x = told(PATH_AND_PAIR);
        due("bob", x.hint(), 1);
        x = told("folk a of 1;folk b of 1;folk c of 2;folk d of 2;baker d;");
        due("the first town's first", x.hint(), 4 + 1);
        x = told("folk a of 1;folk b of 1;folk c of 2;folk d of 2;widow b;");
        due("of the first town", x.hint(), 1);
        x.point(0, 0, 0);
        due("of equal ones the first town's", x.hint(), 1);
        x = told("folk a of 2;");
        due("nobody in the first town", x.hint(), 4);
        x.point(1, 0, -1);
        due("found out", x.hint(), -1);
        x = told(FOUR_EACH);
        due("never", x.hint(), -1);
        x.paint(0, 3, 0);
        due("the last one", x.hint(), 3);
        x.paint(1, 3, 0);
        x.paint(1, 2, 0);
        due("the soonest is two", x.left(), 2);
        due("at the baker, there are two", x.hint(), 3);
    }

    private static void reply() {
        promise = 12;
        TwoTowns x = told(PATH_AND_PAIR);
        due("of equal ones the first", x.reply(0, 0), 0);
        due("to fay", x.reply(1, 2), 0);
        due("no such one", x.reply(0, 3), -1);
        due("no such town", x.reply(2, 0), -1);
        x.point(0, 0, 0);
        due("in a pair", x.reply(0, 0), -1);
        due("in a pair", x.reply(1, 0), -1);
        due("to bob eve", x.reply(0, 1), 1);
        x.point(0, 1, 1);
        due("lost, but one is left", x.reply(0, 2), 2);
        x.point(0, 2, 2);
        due("found out", x.reply(1, 2), -1);
        x = told("folk a of 1;folk b of 1;folk c of 2;baker a;");
        due("for ever is none here", x.reply(0, 1), 0);
        x.point(0, 1, 0);
        due("nobody is left", x.reply(0, 0), -1);
        x = told(FOUR_EACH + "baker c;baker h;");
        due("for ever is best", x.reply(0, 2), 3);
        due("the other one, too", x.reply(1, 3), 2);
    }

    private static void rounds() {
        promise = 13;
        due("of nobody", new TwoTowns().rounds(), -1);
        due("3 and 4", told(THREE_AND_FOUR).rounds(), 4);
        due("1 and 4", told("folk a of 1;folk b of 2;folk c of 2;folk d of 2;folk e of 2;").rounds(), 2);
        due("0 and 4", told("folk b of 2;folk c of 2;folk d of 2;folk e of 2;").rounds(), 1);
        due("like ones", told(FOUR_EACH + "near a b;near h g;owes c d;owes e f;").rounds(), -1);
        due("debts unlike by direction", told(FOUR_EACH + "owes a b;owes b c;owes e f;owes g f;").rounds(), 2);
        due("a ring and a row", told(FOUR_EACH + "near a b;near b c;near c d;near d a;near e f;near f g;near g h;")
                .rounds(), 3);
        due("marks", told(FOUR_EACH + "baker a;").rounds(), 1);
        TwoTowns x = told(PATH_AND_PAIR);
        x.point(0, 0, 0);
        x.point(0, 1, 2);
        due("whatever was pointed at", x.rounds(), 2);
        due("and found out", x.left(), 0);
    }

    private static void sided() {
        promise = 14;
        TwoTowns x = told(THREE_AND_FOUR);
        due("where there are fewer", x.sided(0), -1);
        due("where there are more", x.sided(1), 4);
        due("no such town", x.sided(2), -1);
        due("no such town", x.sided(-1), -1);
        x = told("folk a of 1;folk b of 1;folk c of 2;folk d of 2;baker a;");
        due("at the baker", x.sided(0), 1);
        due("two who are none", x.sided(1), 2);
        x = told(PATH_AND_PAIR);
        due("sided(0)", x.sided(0), 3);
        due("sided(1)", x.sided(1), 3);
        x.point(0, 0, 0);
        due("from no pairs", x.sided(0), 3);
    }

    private static void keeps() {
        promise = 15;
        TwoTowns x = told(PATH_AND_PAIR);
        due("0 rounds: marks alone", x.keeps(0, 1, 0), 7);
        due("1 round", x.keeps(0, 0, 1), 3);
        due("2 rounds", x.keeps(0, 0, 2), 0);
        due("from the second town", x.keeps(1, 0, 1), 5);
        due("5 rounds", x.keeps(0, 0, 5), -1);
        due("-1 rounds", x.keeps(0, 0, -1), -1);
        due("no such one", x.keeps(0, 3, 1), -1);
        due("no such town", x.keeps(2, 0, 1), -1);
        x.point(0, 0, 2);
        x.point(0, 1, 1);
        due("no other pairs", x.keeps(0, 0, 1), 3);
        x = told(FOUR_EACH + "widow a;widow f;near a b;near f g;");
        due("4 rounds", x.keeps(0, 0, 4), 2);
        due("4 rounds", x.keeps(0, 2, 4), 9);
        due("4 rounds", x.keeps(1, 0, 4), 12);
        x = told("folk a of 1;");
        due("nobody there", x.keeps(0, 0, 0), 0);
    }

    private static void hands() {
        promise = 16;
        TwoTowns x = told(PATH_AND_PAIR);
        due("one hand", x.hands(1), -1);
        due("two hands", x.hands(2), 2);
        due("three hands", x.hands(3), 2);
        due("no hand", x.hands(0), -1);
        due("four hands", x.hands(4), -1);
        due("-1 hands", x.hands(-1), -1);
        x = told(THREE_AND_FOUR);
        due("three hands don't count to four", x.hands(3), -1);
        x = told("folk a of 1;folk b of 1;folk c of 2;folk d of 2;folk e of 2;");
        due("two hands don't count to three", x.hands(2), -1);
        due("three do", x.hands(3), 3);
        x = told("folk a of 1;");
        due("nobody to put it on", x.hands(1), 1);
        due("nobody to put it on", x.hands(3), 1);
        x = told("folk a of 2;");
        due("nobody to put it on", x.hands(2), 1);
        due("nobody at all", new TwoTowns().hands(3), -1);
        x = told("folk a of 1;folk c of 2;folk d of 2;");
        due("one hand can't tell one from two", x.hands(1), -1);
        due("two hands can", x.hands(2), 2);
        // A ring and a row of four: each one has a neighbour and one who is none, two hands see no more.
        x = told(FOUR_EACH + "near a b;near b c;near c d;near d a;near e f;near f g;near g h;");
        due("a ring and a row", x.hands(2), -1);
        due("with three", x.hands(3), 3);
        // A hand on h (back: c), one on f (back: a), the first one taken off and put on g: a owes nobody.
        x = told(FOUR_EACH + "owes b c;owes c a;owes d a;owes e h;owes h f;owes f g;");
        due("a hand is taken off again", x.hands(2), 3);
        x = told(FOUR_EACH + "baker a;baker b;baker e;");
        due("one baker or two, one hand", x.hands(1), -1);
        due("two hands", x.hands(2), 2);
        due("whatever is pointed at", x.point(0, 0, 0), 1);
        due("two hands", x.hands(2), 2);
    }

    // ---- 17 to 26: how the towns are made ----

    private static void colours() {
        promise = 17;
        TwoTowns x = told(PATH_AND_PAIR);
        due("how often", x.colours(0), 2);
        due("how many", x.colours(1), 4);
        due("unlike", x.colours(2), 1);
        due("what 3", x.colours(3), -1);
        due("what -1", x.colours(-1), -1);
        x = told(FOUR_EACH + "near a b;near c d;near e h;near f g;");
        due("all alike: how often", x.colours(0), 0);
        due("how many", x.colours(1), 1);
        due("like many", x.colours(2), 0);
        x = told(FOUR_EACH + "owes a b;owes b c;owes c d;owes h g;owes g f;owes f e;");
        due("a row of debts: how often", x.colours(0), 2);
        due("how many", x.colours(1), 4);
        due("like many", x.colours(2), 0);
        x = told(FOUR_EACH + "owes a b;owes c d;owes e f;owes e g;");
        due("owes two: how many", x.colours(1), 5);
        due("how often", x.colours(0), 2);
        x = told("folk a of 1;folk b of 1;folk c of 1;folk d of 1;baker a;baker b;widow b;widow c;");
        due("by marks: how often", x.colours(0), 0);
        due("how many", x.colours(1), 4);
        due("unlike", x.colours(2), 1);
        x = told("folk a of 1;folk b of 1;folk d of 2;folk e of 2;owes a b;owes e d;");
        due("owing and being owed", x.colours(1), 2);
        due("once", x.colours(0), 1);
        due("like many", x.colours(2), 0);
    }

    private static void waysSelvesOrbit() {
        promise = 18;
        due("of nobody", new TwoTowns().ways(), 1);
        due("unlike many", told(THREE_AND_FOUR).ways(), 0);
        due("all", told(FOUR_EACH).ways(), 24);
        due("unlike", told(PATH_AND_PAIR).ways(), 0);
        TwoTowns x = told(FOUR_EACH + "near a b;near b c;near c d;near d a;near e g;near g f;near f h;near h e;");
        due("two rings", x.ways(), 8);
        x.paint(0, 0, 1);
        due("one widow", x.ways(), 0);
        x.paint(1, 2, 1);
        due("two widows", x.ways(), 2);
        x.point(0, 0, 2);
        due("whatever was pointed at", x.ways(), 2);
        promise = 19;
        due("a ring with a widow", x.selves(0), 2);
        due("no such town", x.selves(2), -1);
        due("no such town", x.selves(-1), -1);
        due("of nobody", new TwoTowns().selves(1), 1);
        TwoTowns y = told(FOUR_EACH + "owes a b;owes b c;owes c a;");
        due("a ring of debts", y.selves(0), 3);
        due("four alike", y.selves(1), 24);
        promise = 20;
        due("within the ring", y.orbit(0, 1), 7);
        due("out of it", y.orbit(0, 3), 8);
        due("all", y.orbit(1, 2), 15);
        due("the widow", x.orbit(0, 0), 1);
        due("beside her", x.orbit(0, 1), 10);
        due("no such one", y.orbit(0, 4), -1);
        due("no such one", y.orbit(0, -1), -1);
        due("no such town", y.orbit(2, 0), -1);
        due("nobody there", new TwoTowns().orbit(0, 0), -1);
    }

    private static void mend() {
        promise = 21;
        TwoTowns x = told(PATH_AND_PAIR);
        due("one round", x.mend(1), 0);
        due("two rounds", x.mend(2), 1);
        due("four rounds", x.mend(4), 1);
        due("0 rounds", x.mend(0), -1);
        due("5 rounds", x.mend(5), -1);
        due("nothing is changed by it", x.folk(0, 1, 2), 5);
        due("nothing to undo", x.count(10), 0);
        due("of nobody", new TwoTowns().mend(4), 0);
        x = told(THREE_AND_FOUR);
        due("3 and 4, three rounds", x.mend(3), 0);
        due("3 and 4, four rounds", x.mend(4), -1);
        x = told("folk a of 1;");
        due("nobody there", x.mend(1), -1);
        x = told(FOUR_EACH + "baker a;widow a;");
        due("two marks", x.mend(1), 2);
        x.paint(0, 1, 0);
        due("three marks", x.mend(1), -1);
        x = told(FOUR_EACH + "owes a b;owes e f;owes f e;near e g;");
        due("a debt and neighbours", x.mend(4), 2);
        x.point(0, 0, 0);
        x.point(0, 1, 1);
        due("found out", x.count(3), 1);
        due("from no pairs", x.mend(4), 2);
        x = told(FOUR_EACH + "near e f;near e g;near e h;");
        due("three links", x.mend(4), -1);
        due("two rounds", x.mend(1), 0);
    }

    private static void elders() {
        promise = 22;
        TwoTowns x = new TwoTowns();
        for (int many = 0; many <= 12; many++) {
            for (int other = many + 1; other <= 12; other++) {
                int want = many == 0 ? 1 : many < 3 ? 2 : many < 7 ? 3 : 4;
                due("elders(" + many + ", " + other + ")", x.elders(many, other), want);
                due("elders(" + other + ", " + many + ")", x.elders(other, many), want);
            }
            due("the same", x.elders(many, many), -1);
        }
        due("13", x.elders(13, 1), -1);
        due("13", x.elders(1, 13), -1);
        due("-1", x.elders(-1, 2), -1);
        due("-1", x.elders(2, -1), -1);
    }

    private static void farGroupsLonerMost() {
        TwoTowns x = told(FOUR_EACH + "near a c;near c b;near b d;owes e f;near g h;");
        promise = 23;
        due("three steps", x.far(0, 0, 3), 3);
        due("back", x.far(0, 3, 0), 3);
        due("two steps", x.far(0, 0, 1), 2);
        due("one step", x.far(1, 3, 2), 1);
        due("none", x.far(0, 2, 2), 0);
        due("never: debts don't lead there", x.far(1, 0, 1), -1);
        due("no such one", x.far(0, 0, 4), -1);
        due("no such one", x.far(0, -1, 0), -1);
        due("no such town", x.far(2, 0, 0), -1);
        promise = 24;
        due("one", x.groups(0), 1);
        due("three", x.groups(1), 3);
        due("no such town", x.groups(2), -1);
        due("no such town", x.groups(-1), -1);
        due("nobody", new TwoTowns().groups(1), 0);
        promise = 25;
        due("none", x.loner(0), 0);
        due("none: owes, is owed", x.loner(1), 0);
        x.link(1, 0, 1, 1);
        due("two", x.loner(1), 3);
        due("no such town", x.loner(2), -1);
        due("no such town", x.loner(-1), -1);
        due("nobody", new TwoTowns().loner(0), 0);
        promise = 26;
        due("of equal ones the first", x.most(0), 1);
        due("the first with one", x.most(1), 2);
        due("no such town", x.most(2), -1);
        due("no such town", x.most(-1), -1);
        due("nobody", new TwoTowns().most(0), -1);
        due("all alike", told(FOUR_EACH).most(1), 0);
    }

    /** Numbers far off, and such as a shift would take for small ones. */
    private static void farOff() {
        TwoTowns x = told(FOUR_EACH + "near a b;owes a c;baker a;widow a;");
        for (int bad : new int[] {-1, 4, 31, 32, 33, 64, -32, Integer.MAX_VALUE, Integer.MIN_VALUE}) {
            promise = 5;
            due("folk", x.folk(0, bad, 2), -2);
            promise = 6;
            due("point", x.point(0, bad, 0), -1);
            due("point back", x.point(0, 0, bad), -1);
            promise = 7;
            due("paint", x.paint(0, bad, 0), false);
            promise = 8;
            due("link", x.link(0, bad, 0, 0), false);
            due("link", x.link(0, 0, bad, 1), false);
            promise = 12;
            due("reply", x.reply(0, bad), -1);
            promise = 15;
            due("keeps", x.keeps(0, bad, 1), -1);
            promise = 20;
            due("orbit", x.orbit(0, bad), -1);
            promise = 23;
            due("far", x.far(0, 0, bad), -1);
            due("far", x.far(0, bad, 0), -1);
            due("far", x.far(0, bad, bad), -1);
            promise = 14;
            due("sided", x.sided(bad), -1);
            promise = 36;
            due("mark", x.mark(bad, false), false);
        }
        due("nothing done", x.count(10), 0);
    }

    // ---- 27 to 33: the claim and the lost town ----

    private static void measure() {
        promise = 27;
        TwoTowns x = new TwoTowns();
        due("no claim", x.measure(0), -1);
        say(x, "and some x widow x all y or owes y y not widow y");
        due("depth", x.measure(0), 1);
        due("names", x.measure(1), 2);
        due("length", x.measure(2), 8);
        due("what 3", x.measure(3), -1);
        due("what -1", x.measure(-1), -1);
        say(x, "some x some x not two u near x u");
        due("depth", x.measure(0), 3);
        due("names", x.measure(1), 2);
        due("length", x.measure(2), 5);
        say(x, "all x all y all z all u and near x y near z u");
        due("depth", x.measure(0), 4);
        due("names", x.measure(1), 4);
        due("length", x.measure(2), 7);
    }

    private static void soAndParts() {
        promise = 28;
        TwoTowns x = told(FOUR_EACH + "baker a;baker b;widow c;baker e;near a c;owes b d;");
        due("no claim", x.so(0), -1);
        due("no claim", x.parts(), false);
        due("no claim", x.models(), -1);
        is(x, "some x baker x", 1, 1);
        is(x, "two x baker x", 1, 0);
        is(x, "all x baker x", 0, 0);
        is(x, "some x widow x", 1, 0);
        is(x, "some x some y near x y", 1, 0);
        is(x, "some x near x x", 0, 0);
        is(x, "two x some y near x y", 1, 0);
        is(x, "some x some y owes x y", 1, 0);
        is(x, "two x some y owes x y", 0, 0);
        is(x, "some x some y and owes x y and baker x not widow y", 1, 0);
        is(x, "some x some y and owes x y baker y", 0, 0);
        is(x, "all x some y same x y", 1, 1);
        is(x, "two x two y same x y", 0, 0);
        is(x, "all x some y not same x y", 1, 1);
        is(x, "all u or baker u all z or same u z not near u z", 0, 1);
        is(x, "some u some z and near u z widow z", 1, 0);
        is(x, "some x and baker x some x widow x", 1, 0);
        is(x, "some x and some x widow x baker x", 1, 0);
        is(x, "some x some y some z some u and not same x y and not same z u and near x y near u z", 1, 0);
        is(x, "some x and not baker x all y not near x y", 1, 1);
        due("no such town", x.so(2), -1);
        due("no such town", x.so(-1), -1);
        TwoTowns y = told("folk a of 1;");
        is(y, "all x baker x", 0, 1);
        is(y, "some x same x x", 1, 0);
        is(y, "two x same x x", 0, 0);
        is(y, "all u all y all z two x baker x", 0, 1);
        is(y, "not some u not baker u", 0, 1);
        y.paint(0, 0, 0);
        due("as the folk are now", y.so(0), 1);
    }

    private static void is(TwoTowns x, String claim, int first, int second) {
        promise = 28;
        say(x, claim);
        due("so(0) of " + claim, x.so(0), first);
        due("so(1) of " + claim, x.so(1), second);
        promise = 29;
        due("parts() of " + claim, x.parts(), first != second);
    }

    private static void models() {
        promise = 30;
        TwoTowns x = new TwoTowns();
        due("no claim", x.models(), -1);
        String[] claims = {"some x baker x", "all x baker x", "two x baker x", "some x same x x", "two x same x x",
            "some x widow x", "all x all y not owes x y", "some x some y near x y", "all x all y or same x y near x y",
            "two x two y not same x y", "some x two y near x y"};
        // By hand: without bakers 1 + 1 + 2 + 8, all bakers as many; two bakers at least: 2 of two, 4 * 8 of three.
        int[] want = {63, 12, 2 + 32, 74, 72, 0, 75, 4 + 56, 1 + 2 + 4 + 8, 64, 4 * 8};
        for (int i = 0; i < claims.length; i++) {
            say(x, claims[i]);
            due("models() of " + claims[i], x.models(), want[i]);
            due("once more", x.models(), want[i]);
        }
    }

    private static void reportLostSure() {
        TwoTowns x = new TwoTowns();
        promise = 31;
        due("no claim", x.report(true), false);
        promise = 33;
        due("no claim", x.sure(), -1);
        promise = 32;
        due("what 3", x.lost(3), -1);
        due("what -1", x.lost(-1), -1);
        lostIs(x, 75, 0, 3);
        say(x, "two x same x x");
        promise = 33;
        due("one can't tell", x.sure(), -1);
        promise = 31;
        due("report(false)", x.report(false), true);
        lostIs(x, 3, 0, 1);
        due("count(9)", x.count(9), 1);
        promise = 33;
        due("in none", x.sure(), 0);
        say(x, "all x all y same x y");
        due("in all", x.sure(), 1);
        say(x, "some x baker x");
        due("can't tell", x.sure(), -1);
        x.report(false);
        lostIs(x, 2, 0, 1);
        say(x, "some x same x x");
        x.report(true);
        lostIs(x, 1, 1, 1);
        x.report(false);
        lostIs(x, 0, -1, -1);
        due("none such", x.sure(), -1);
        promise = 31;
        due("four there are", x.report(true), false);
        due("count(9)", x.count(9), 4);
        x = new TwoTowns();
        say(x, "some x same x x");
        x.report(false);
        lostIs(x, 1, 0, 0);
        x = new TwoTowns();
        say(x, "two x same x x");
        x.report(true);
        lostIs(x, 72, 2, 3);
        say(x, "some x some y some z and not same x y and not same y z not same x z");
        x.report(true);
        lostIs(x, 64, 3, 3);
        x = new TwoTowns();
        say(x, "two x same x x");
        x.report(true);
        say(x, "some x some y some z and not same x y and not same y z not same x z");
        x.report(false);
        lostIs(x, 8, 2, 2);
    }

    private static void lostIs(TwoTowns x, int many, int fewest, int most) {
        promise = 32;
        due("lost(0)", x.lost(0), many);
        due("lost(1)", x.lost(1), fewest);
        due("lost(2)", x.lost(2), most);
    }

    // ---- 34 to 37 ----

    private static void rests() {
        promise = 34;
        TwoTowns x = new TwoTowns();
        due("both point or both wait", rest(x, 5, 2, 3, -1), 2);
        due("the least first", rest(x, 5, 2, 3, 0), 0);
        due("the second", rest(x, 5, 2, 3, 1), 3);
        due("none such", rest(x, 5, 2, 3, 2), THROWS);
        due("both wait alone", rest(x, 3, 2, 5, -1), 1);
        due("both wait alone", rest(x, 3, 2, 5, 0), 0);
        due("none such", rest(x, 3, 2, 5, 1), THROWS);
        due("equal is no more", rest(x, 4, 9, 4, 1), 3);
        due("nothing is lost", rest(x, 3, 0, 5, -1), 3);
        due("the other one points", rest(x, 3, 0, 5, 1), 1);
        due("the first one points", rest(x, 3, 0, 5, 2), 2);
        due("all four", rest(x, 4, 0, 4, -1), 4);
        due("the fourth", rest(x, 4, 0, 4, 3), 3);
        due("nothing lost, less got", rest(x, 5, 0, 3, -1), 2);
        due("what -2", rest(x, 5, 2, 3, -2), THROWS);
        due("what 4", rest(x, 4, 0, 4, 4), THROWS);
        due("what far off", rest(x, 4, 0, 4, Integer.MIN_VALUE), THROWS);
        for (int bad : new int[] {-1, 10}) {
            due("both", rest(x, bad, 1, 1, -1), THROWS);
            due("loses", rest(x, 1, bad, 1, -1), THROWS);
            due("gets", rest(x, 1, 1, bad, -1), THROWS);
        }
        due("0 to 9", rest(x, 9, 9, 9, -1), 2);
        due("0 to 9", rest(x, 0, 0, 0, -1), 4);
    }

    private static void plays() {
        promise = 35;
        TwoTowns x = told("folk p of 1 ;");
        due("nobody there", x.plays(3, 4, 0), 4);
        due("a round each", x.plays(3, 4, 1), 4);
        x.point(0, 0, -1);
        due("found out already", x.plays(3, 4, 0), 4);
        due("no round", x.plays(3, 4, 1), 0);
        due("seed -1", x.plays(-1, 4, 0), -1);
        due("seed 10000", x.plays(10000, 4, 0), -1);
        due("many 0", x.plays(1, 0, 0), -1);
        due("many 100", x.plays(1, 100, 0), -1);
        due("what 2", x.plays(1, 1, 2), -1);
        due("what -1", x.plays(1, 1, -1), -1);
        x = told(FOUR_EACH);
        due("never", x.plays(9999, 99, 0), 0);
        due("four rounds each", x.plays(9999, 99, 1), 396);
        x.point(0, 0, 3);
        due("from how it is now", x.plays(0, 10, 1), 30);
        due("nothing is changed by it", x.count(2), 1);
        // By hand: the draws from 1 are 16838, 5758, 10113, 17515, 31051, 5627 before they are cut down.
        x = told("folk a of 1;folk b of 1;folk c of 2;folk d of 2;baker a;");
        due("c, a: found out", x.plays(1, 1, 0), 1);
        due("in one round", x.plays(1, 1, 1), 1);
        due("then b, d, then c, a", x.plays(1, 2, 0), 2);
        due("in three rounds", x.plays(1, 2, 1), 3);
        byDraws(x);
    }

    /** One baker in the first town, none in the second: a play is found out when she is in a pair. */
    private static void byDraws(TwoTowns x) {
        long g = 77;
        int rounds = 0;
        for (int i = 0; i < 50; i++) {
            boolean found = false;
            boolean second = false;
            while (!found) {
                rounds++;
                g = (g * 1103515245L + 12345L) & 0x7fffffffL;
                int one = (int) ((g >> 16) % (second ? 2 : 4));
                g = (g * 1103515245L + 12345L) & 0x7fffffffL;
                int back = (int) ((g >> 16) % (second ? 1 : 2));
                found = second || one == 0 || one >= 2 && back == 0;
                second = true;
            }
        }
        due("rounds of 50 plays", x.plays(77, 50, 1), rounds);
        due("all are found out", x.plays(77, 50, 0), 50);
    }

    private static void marks() {
        promise = 36;
        TwoTowns x = told(THREE_AND_FOUR);
        due("nothing is on it", x.mark(0, true), false);
        due("none such", x.mark(4, false), false);
        due("none such", x.mark(-1, false), false);
        due("none such", x.mark(4, true), false);
        due("none such", x.mark(-1, true), false);
        say(x, "some x baker x");
        x.report(true);
        x.paint(0, 1, 0);
        x.link(1, 3, 2, 1);
        x.link(1, 0, 1, 0);
        x.point(0, 0, 2);
        due("laid", x.mark(3, false), true);
        due("laying undoes nothing", x.count(10), 4);
        for (int i = 0; i < 4; i++) {
            x.undo();
        }
        x.report(false);
        say(x, "all x baker x");
        due("lost", x.lost(0), 0);
        x.mark(0, false);
        due("gone back to", x.mark(3, true), true);
        due("bakers", x.count(4), 2);
        due("debts", x.folk(1, 3, 3), 4);
        due("neighbours", x.folk(1, 1, 2), 1);
        due("pairs", x.folk(1, 2, 5), 0);
        due("reported", x.count(9), 1);
        due("lost", x.lost(0), 63);
        due("nothing can be undone", x.undo(), false);
        due("the claim stays", x.models(), 12);
        x.paint(0, 0, 0);
        due("what comes then can", x.count(10), 1);
        due("again", x.mark(3, true), true);
        due("bakers", x.count(4), 2);
        due("the other one", x.mark(0, true), true);
        due("bakers", x.count(4), 0);
        due("reported", x.count(9), 2);
        x.mark(3, false);
        x.mark(0, true);
        due("laid anew", x.mark(3, true), true);
        due("bakers", x.count(4), 0);
        due("none on this", x.mark(1, true), false);
        x = told("folk a of 1;");
        x.mark(0, false);
        x.point(0, 0, -1);
        x.mark(1, false);
        x.mark(0, true);
        due("not found out", x.count(3), 0);
        x.mark(1, true);
        due("found out, nobody was left", x.count(3), 1);
    }

    private static void count() {
        promise = 37;
        TwoTowns x = told(THREE_AND_FOUR + "baker a;baker c;baker f;widow b;widow h;widow g;");
        int[] want = {3, 4, 0, 0, 5, 2, 2, 12, 0, 0, 0, 0};
        for (int what = 0; what < 12; what++) {
            due("count(" + what + ")", x.count(what), want[what]);
        }
        due("another what", x.count(12), -1);
        due("another what", x.count(-1), -1);
        say(x, "some x baker x");
        x.report(true);
        x.point(0, 0, 1);
        feed(x, "abc");
        int[] then = {3, 4, 1, 0, 5, 2, 2, 12, 1, 1, 1, 3};
        for (int what = 0; what < 12; what++) {
            due("count(" + what + ")", x.count(what), then[what]);
        }
        x.point(0, 1, 0);
        due("found out", x.count(3), 1);
    }
}
