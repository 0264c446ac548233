import java.lang.annotation.ElementType;
import java.lang.annotation.Retention;
import java.lang.annotation.RetentionPolicy;
import java.lang.annotation.Target;
import java.lang.reflect.Method;
import java.math.BigInteger;
import java.nio.file.Files;
import java.nio.file.Path;
import java.util.ArrayList;
import java.util.Comparator;
import java.util.List;
import java.util.NoSuchElementException;
import java.util.Set;
import java.util.TreeSet;

/**
 * A test for each sentence of the document that names a boundary case: too small, too large, empty, full, a
 * wrap-around, a refused call. Each test bears the words of the sentence, which must stand in the document so.
 */
public final class BoundaryTests {
    /** The words of the document that a test holds the class to. */
    @Retention(RetentionPolicy.RUNTIME)
    @Target(ElementType.METHOD)
    private @interface Sentence {
        int promise();

        String says();
    }

    private interface Call {
        int on(TwoTowns x);
    }

    private interface Made {
        TwoTowns anew();
    }

    private static final String FOUR_EACH =
            "folk a of 1;folk b of 1;folk c of 1;folk d of 1;folk e of 2;folk f of 2;folk g of 2;folk h of 2;";
    private static final String RESERVED = "folk of baker widow near owes not and or some all two same x y z u";
    private static final int THROWS = -1000;
    private static final int[] NO_TOWN = {-1, 2, 3, 4, 32, 33, -2, Integer.MIN_VALUE, Integer.MAX_VALUE};
    private static final int[] NO_FOLK = {-2, 4, 5, 31, 32, 33, -31, -32, Integer.MIN_VALUE, Integer.MAX_VALUE};
    private static final int[] FAR_OFF = {-2, 31, 32, 100, Integer.MIN_VALUE, Integer.MAX_VALUE};

    private static final List<String> wrongOnes = new ArrayList<>();
    private static int looked = 0;

    public static void main(String[] args) throws Exception {
        String document = document();
        List<Method> tests = new ArrayList<>();
        Set<Integer> promises = new TreeSet<>();
        for (Method m : BoundaryTests.class.getDeclaredMethods()) {
            if (m.isAnnotationPresent(Sentence.class)) {
                tests.add(m);
                promises.add(m.getAnnotation(Sentence.class).promise());
            }
        }
        tests.sort(Comparator.<Method>comparingInt(m -> m.getAnnotation(Sentence.class).promise())
                .thenComparing(Method::getName));
        int failed = 0;
        for (Method m : tests) {
            failed += isKept(m, document) ? 0 : 1;
        }
        for (int promise = 1; promise <= 37; promise++) {
            if (!promises.contains(promise)) {
                System.out.println("promise " + promise + " has no test");
                failed++;
            }
        }
        System.out.println(tests.size() + " sentences, " + looked + " answers looked at, " + failed + " fail");
        if (failed != 0) {
            System.exit(1);
        }
    }

    /** Where the document is not beside the project the words can't be compared; the answers can. */
    private static String document() throws Exception {
        Path path = Path.of("../shared/DOC.md");
        if (!Files.isReadable(path)) {
            System.out.println("no " + path + ": the words of the sentences are not compared");
            return "";
        }
        return Files.readString(path).replaceAll("\\s+", " ");
    }

    private static boolean isKept(Method m, String document) throws Exception {
        Sentence sentence = m.getAnnotation(Sentence.class);
        wrongOnes.clear();
        int before = looked;
        m.invoke(null);
        if (!document.isEmpty() && !document.contains(sentence.says())) {
            wrongOnes.add("the document does not say so");
        }
        if (looked == before) {
            wrongOnes.add("nothing was looked at");
        }
        if (!wrongOnes.isEmpty()) {
            System.out.println("promise " + sentence.promise() + ", " + m.getName() + ": " + sentence.says());
            for (int i = 0; i < wrongOnes.size() && i < 12; i++) {
                System.out.println("    " + wrongOnes.get(i));
            }
        }
        return wrongOnes.isEmpty();
    }

    // ---- helpers ----

    private static void due(String call, long got, long want) {
        looked++;
        if (got != want) {
            wrongOnes.add(call + " answered " + got + ", due is " + want);
        }
    }

    private static void due(String call, boolean got, boolean want) {
        due(call, number(got), number(want));
    }

    private static void same(String what, String got, String want) {
        looked++;
        if (!got.equals(want)) {
            wrongOnes.add(what + ": it was " + want + " and is " + got);
        }
    }

    private static int number(boolean answer) {
        return answer ? 1 : 0;
    }

    private static int feed(TwoTowns x, String text) {
        int answer = 0;
        for (int i = 0; i < text.length(); i += 24) {
            long[] word = new long[3];
            for (int k = 0; k < 24; k++) {
                int sign = i + k < text.length() ? text.charAt(i + k) : 0;
                word[k / 8] = word[k / 8] << 8 | sign & 255;
            }
            answer = x.feed(word[0], word[1], word[2]);
        }
        return answer;
    }

    private static TwoTowns told(String text) {
        TwoTowns x = new TwoTowns();
        feed(x, text);
        due("towns() of " + text, x.towns(), 0);
        return x;
    }

    private static void say(TwoTowns x, String claim) {
        feed(x, claim);
        due("claim() of " + claim, x.claim(), 0);
    }

    private static TwoTowns claimed(String claim) {
        TwoTowns x = new TwoTowns();
        say(x, claim);
        return x;
    }

    /** Two towns of so many folk, without marks and links: a, b, c, d and e, f, g, h. */
    private static TwoTowns plain(int first, int second) {
        StringBuilder b = new StringBuilder();
        for (int i = 0; i < first; i++) {
            b.append("folk ").append((char) ('a' + i)).append(" of 1;");
        }
        for (int i = 0; i < second; i++) {
            b.append("folk ").append((char) ('e' + i)).append(" of 2;");
        }
        return told(b.toString());
    }

    /** Some of all that a refused call must leave as it is; nothing is on the tape. */
    private static TwoTowns busy() {
        TwoTowns x = told(FOUR_EACH + "baker a;baker e;widow h;near a b;near e f;owes c d;");
        say(x, "some x baker x");
        x.report(true);
        x.mark(1, false);
        x.paint(0, 3, 1);
        x.link(1, 2, 3, 1);
        x.point(0, 0, 0);
        return x;
    }

    private static TwoTowns busyWithSigns() {
        TwoTowns x = busy();
        feed(x, "abc");
        return x;
    }

    /** What can be seen of an object, but for its marks. */
    private static String shown(TwoTowns x) {
        StringBuilder b = new StringBuilder();
        for (int what = 0; what < 12; what++) {
            b.append(x.count(what)).append(' ');
        }
        for (int i = 0; i < 8; i++) {
            b.append(x.folk(i / 4, i % 4, 2)).append('/').append(x.folk(i / 4, i % 4, 3)).append('/');
            b.append(x.folk(i / 4, i % 4, 5)).append(' ');
        }
        b.append(x.measure(0)).append(' ').append(x.measure(2)).append(' ').append(x.models()).append(' ');
        return b.append(x.lost(0)).toString();
    }

    /** The call answers so and leaves all as it was. */
    private static void unchanged(Made made, String name, Call call, int want) {
        TwoTowns x = made.anew();
        String before = shown(x);
        due(name, call.on(x), want);
        same(name, shown(x), before);
    }

    private static void refused(String name, Call call, int want) {
        unchanged(BoundaryTests::busyWithSigns, name, call, want);
        TwoTowns x = busyWithSigns();
        call.on(x);
        for (int mark = 0; mark < 4; mark++) {
            due("mark(" + mark + ", true) behind " + name, x.mark(mark, true), mark == 1);
        }
        due("widows of the mark behind " + name, x.count(6), 0);
    }

    /** The sign ^ stands ahead of the first wrong token, and is none of the text. */
    private static void townsFault(String text, int kind) {
        fault(text, kind, TwoTowns::towns);
    }

    private static void claimFault(String text, int kind) {
        fault(text, kind, TwoTowns::claim);
    }

    private static void fault(String text, int kind, Call reading) {
        int place = text.indexOf('^');
        String fed = text.substring(0, place) + text.substring(place + 1);
        TwoTowns x = busy();
        String before = shown(x);
        due("signs of " + fed, fed.isEmpty() ? 0 : feed(x, fed), fed.length());
        due("reading " + text, reading.on(x), kind + 16 * place);
        same("behind " + text, shown(x), before);
        due("the mark behind " + text, x.mark(1, true), true);
    }

    private static int rest(int both, int loses, int gets, int what) {
        try {
            return new TwoTowns().rests(both, loses, gets, what);
        } catch (NoSuchElementException e) {
            return THROWS;
        }
    }

    // ---- promise 1: a new object ----

    @Sentence(promise = 1, says = "Two towns without FOLK.")
    private static void newTownsAreEmpty() {
        TwoTowns x = new TwoTowns();
        due("count(0)", x.count(0), 0);
        due("count(1)", x.count(1), 0);
        for (int town = 0; town < 2; town++) {
            for (int what = 0; what < 6; what++) {
                due("folk(" + town + ", 0, " + what + ")", x.folk(town, 0, what), -2);
            }
            due("bakers", x.count(4 + town), 0);
            due("widows", x.count(6 + town), 0);
        }
    }

    @Sentence(promise = 1, says = "At first: two towns without FOLK, no CLAIM.")
    private static void newHasNoClaim() {
        TwoTowns x = new TwoTowns();
        due("count(8)", x.count(8), 0);
        due("measure(0)", x.measure(0), -1);
        due("so(0)", x.so(0), -1);
        due("models()", x.models(), -1);
    }

    @Sentence(promise = 1, says = "At first there are none.")
    private static void newHasNoPairs() {
        TwoTowns x = new TwoTowns();
        due("count(2)", x.count(2), 0);
        due("count(3)", x.count(3), 0);
        due("count(9)", x.count(9), 0);
        due("count(10)", x.count(10), 0);
        due("count(11)", x.count(11), 0);
        TwoTowns y = plain(4, 4);
        due("count(2) behind towns", y.count(2), 0);
    }

    @Sentence(promise = 1, says = "`NONE = -1`: None.")
    private static void noneIsBelowZero() {
        due("NONE", TwoTowns.NONE, -1);
    }

    /** Two objects have nothing in common. */
    @Sentence(promise = 1, says = "`TwoTowns()`: Two towns without FOLK.")
    private static void newBesideAnother() {
        TwoTowns old = busyWithSigns();
        String before = shown(old);
        String fresh = shown(new TwoTowns());
        same("the old one", shown(old), before);
        TwoTowns x = new TwoTowns();
        due("a mark of the old one", x.mark(1, true), false);
        busyWithSigns();
        same("a new one beside the old one", shown(x), fresh);
    }

    @Sentence(promise = 1, says = "An object is used for at most 512 calls after it has been made")
    private static void manyCallsOnOneObject() {
        TwoTowns x = told(FOUR_EACH + "near a b;near b c;near c d;owes a b;owes f e;owes g h;");
        TwoTowns y = claimed("all x all y all z all u or near x y or owes z u not same x u");
        for (int i = 0; i < 62; i++) {
            due("mend(4)", x.mend(4), -1);
            due("hands(3)", x.hands(3), 2);
            due("left()", x.left(), 2);
            due("sided(1)", x.sided(1), 2);
            due("plays", x.plays(9999, 99, 0), 99);
            due("paint", x.paint(0, i % 4, 0), true);
            due("undo", x.undo(), true);
            due("count(10)", x.count(10), 0);
        }
        for (int i = 0; i < 100; i++) {
            due("mark", y.mark(i % 4, false), true);
            due("back", y.mark(i % 4, true), true);
            due("models, the one of nobody", y.models(), 1);
            due("sure", y.sure(), -1);
        }
    }

    // ---- promise 2: feed ----

    @Sentence(promise = 2, says = "others than 10 and 32 .. 126, and what is beyond 1,000, are left out")
    private static void eachSignInEachPlace() {
        for (int sign = 0; sign < 256; sign++) {
            boolean kept = sign == 10 || sign >= 32 && sign <= 126;
            for (int place = 0; place < 24; place++) {
                long[] word = new long[3];
                word[place / 8] = (long) sign << 56 - 8 * (place % 8);
                due("sign " + sign + " at " + place, new TwoTowns().feed(word[0], word[1], word[2]), number(kept));
            }
        }
    }

    @Sentence(promise = 2, says = "Up to 24 signs come behind the TAPE: the bytes of a, b, c, of each the highest"
            + " first")
    private static void bytesInOrder() {
        for (int place = 0; place < 24; place++) {
            char[] signs = " ".repeat(24).toCharArray();
            signs[place] = '?';
            TwoTowns x = new TwoTowns();
            due("24 signs", feed(x, new String(signs)), 24);
            due("the one at " + place, x.towns(), 1 + 16 * place);
        }
        TwoTowns x = new TwoTowns();
        due("all bytes 255", x.feed(-1, -1, -1), 0);
        due("all bytes 0", x.feed(0, 0, 0), 0);
        due("all bytes 126", x.feed(0x7E7E7E7E7E7E7E7EL, 0x7E7E7E7E7E7E7E7EL, 0x7E7E7E7E7E7E7E7EL), 24);
        due("all bytes 127", x.feed(0x7F7F7F7F7F7F7F7FL, 0x7F7F7F7F7F7F7F7FL, 0x7F7F7F7F7F7F7F7FL), 24);
    }

    @Sentence(promise = 2, says = "are left out: how many there are.")
    private static void leftOutSignsLeaveNoGap() {
        TwoTowns x = new TwoTowns();
        due("signs left out within a word", feed(x, "fo\u0001\u0000l\u007Fk a \u00FFof\t1;"), 11);
        due("towns()", x.towns(), 0);
        due("count(0)", x.count(0), 1);
        due("a place goes by the signs kept", feed(x, "\u0000\u0001?"), 1);
        due("towns()", x.towns(), 1);
        due("a word of two feeds", feed(x, "fol"), 3);
        due("a word of two feeds", feed(x, "k b of 2;"), 12);
        due("towns()", x.towns(), 0);
        due("count(1)", x.count(1), 1);
    }

    @Sentence(promise = 2, says = "The TAPE has at most 1,000 signs, 10 and 32 .. 126")
    private static void tapeGetsFull() {
        TwoTowns x = new TwoTowns();
        for (int i = 1; i <= 41; i++) {
            due("feed " + i, feed(x, " ".repeat(24)), 24 * i);
        }
        due("15 more", feed(x, " ".repeat(15)), 999);
        due("the 1000th", feed(x, "?"), 1000);
        due("count(11)", x.count(11), 1000);
        due("the 1000th is read", x.towns(), 1 + 16 * 999);
        due("count(11) behind it", x.count(11), 0);
    }

    @Sentence(promise = 2, says = "what is beyond 1,000, are left out")
    private static void beyondThousand() {
        for (int place = 984; place < 1008; place++) {
            TwoTowns x = new TwoTowns();
            feed(x, " ".repeat(984));
            char[] signs = " ".repeat(24).toCharArray();
            signs[place - 984] = '?';
            due("24 to 984", feed(x, new String(signs)), 1000);
            due("the one at " + place, x.towns(), place < 1000 ? 1 + 16 * place : 0);
        }
        TwoTowns y = new TwoTowns();
        feed(y, "?" + " ".repeat(999));
        due("nothing comes to a full one", feed(y, ";".repeat(24)), 1000);
        due("nor what is left out anyway", y.feed(0, 0, -1), 1000);
        due("the first sign is not written over", y.towns(), 1);
    }

    @Sentence(promise = 2, says = "The TAPE has at most 1,000 signs")
    private static void signsLeftOutDoNotFill() {
        TwoTowns x = new TwoTowns();
        for (int i = 0; i < 60; i++) {
            due("24 left out", x.feed(-1, 0, 0x0101010101010101L), 0);
        }
        due("the tape's end", feed(x, " ".repeat(1000)), 1000);
    }

    @Sentence(promise = 2, says = "The TAPE has at most 1,000 signs, 10 and 32 .. 126; what reads it takes it: it"
            + " is empty then.")
    private static void fullTapeEndsWithinAToken() {
        String[] ends = {"folk", "fol", "f", "folk a of 1", "folk a of 1111", "folk a of 11111", "abcdefgh",
                "abcdefghi", ";", "?"};
        int[] faults = {1, 1, 1, 1, 4, 1, 1, 1, 1, 1};
        int[] places = {4, 0, 0, 11, 10, 10, 0, 0, 0, 0};
        for (int i = 0; i < ends.length; i++) {
            TwoTowns x = new TwoTowns();
            int blanks = 1000 - ends[i].length();
            due("full", feed(x, " ".repeat(blanks) + ends[i]), 1000);
            due("ending with " + ends[i], x.towns(), faults[i] + 16 * (blanks + places[i]));
        }
        TwoTowns x = new TwoTowns();
        feed(x, " ".repeat(986) + "some x baker x");
        due("a claim at the end of a full one", x.claim(), 0);
        feed(x, " ".repeat(993) + "baker x");
        due("a name of none at the end", x.claim(), 2 + 16 * 999);
        feed(x, "1".repeat(1000));
        due("digits alone", x.towns(), 1);
        feed(x, "x".repeat(1000));
        due("letters alone", x.claim(), 1);
        feed(x, ";".repeat(1000));
        due("other signs alone", x.towns(), 1);
    }

    @Sentence(promise = 2, says = "what reads it takes it: it is empty then")
    private static void whatWasTakenIsNotReadAgain() {
        String[] old = {"1".repeat(40), "x".repeat(40), ";".repeat(40), "folk ".repeat(8), " ".repeat(40)};
        String[] cut = {"folk a of 1", "folk a", "folk a of", "fol", "folk a of 1;baker a", "folk a of 1;"};
        int[] faults = {1 + 16 * 11, 1 + 16 * 6, 1 + 16 * 9, 1, 1 + 16 * 19, 0};
        for (String before : old) {
            for (int i = 0; i < cut.length; i++) {
                TwoTowns x = new TwoTowns();
                feed(x, before);
                x.towns();
                feed(x, cut[i]);
                due(cut[i] + " behind " + before, x.towns(), faults[i]);
            }
        }
    }

    // ---- promise 3: towns ----

    @Sentence(promise = 3, says = "TOWNS: any number of folk NAME of N ;")
    private static void noStatementAtAll() {
        for (String text : new String[] {"", " ", "\n", " \n \n  ", " ".repeat(1000)}) {
            TwoTowns x = busy();
            feed(x, text);
            due("towns() of blanks", x.towns(), 0);
            due("nobody", x.count(0) + x.count(1), 0);
            due("the tape", x.count(11), 0);
        }
    }

    @Sentence(promise = 3, says = "TOWNS: any number of folk NAME of N ;")
    private static void asManyStatementsAsCanBe() {
        StringBuilder b = new StringBuilder(FOUR_EACH);
        for (char one = 'a'; one <= 'h'; one++) {
            b.append("baker ").append(one).append(";widow ").append(one).append(';');
            for (char other = one < 'e' ? 'a' : 'e'; other <= (one < 'e' ? 'd' : 'h'); other++) {
                b.append(one < other ? "near " + one + " " + other + ";" : "");
                b.append(one != other ? "owes " + one + " " + other + ";" : "");
            }
        }
        TwoTowns x = told(b.toString());
        for (int i = 0; i < 8; i++) {
            for (int what = 0; what < 5; what++) {
                due("folk", x.folk(i / 4, i % 4, what), what < 2 ? 1 : 15 - (1 << i % 4));
            }
        }
    }

    @Sentence(promise = 3, says = "what reads it takes it: it is empty then")
    private static void townsTakesTheTape() {
        TwoTowns x = plain(1, 1);
        due("without a fault", x.count(11), 0);
        feed(x, "folk a of 1;folk");
        due("a fault", x.towns(), 1 + 16 * 16);
        due("with a fault", x.count(11), 0);
        due("the next feed", feed(x, "folk b of 2;"), 12);
        due("towns()", x.towns(), 0);
        due("what was taken is not read again", x.count(0), 0);
    }

    @Sentence(promise = 3, says = "TOKENS, each as long as can be, blanks (10, 32) between where one likes")
    private static void blanksWhereOneLikes() {
        String[] fine = {"folk a of 1;", "folk\na\nof\n1\n;\n", "folk a of1;", "   folk   a   of   1   ;   ",
                "folk a of 1\n;"};
        for (String text : fine) {
            due("one of " + text, told(text).count(0), 1);
        }
        townsFault("^folka of 1;", 1);
        townsFault("folk aof ^1;", 1);
        townsFault("folk a ^off 1;", 1);
        townsFault("folk ann of 1;baker ^annann;", 2);
        townsFault("folk a of ^11;", 4);
        due("a word ends where a number begins", told("folk a of1;folk b of2;").count(1), 1);
    }

    @Sentence(promise = 3, says = "WORDS (letters a .. z, 8 at most)")
    private static void longestWord() {
        due("8 letters", told("folk abcdefgh of 1;baker abcdefgh;").count(4), 1);
        due("1 letter, the first and the last", told("folk a of 1;folk zz of 1;baker zz;").count(4), 2);
        townsFault("folk ^abcdefghi of 1;", 1);
        townsFault("^folkfolkf a of 1;", 1);
        townsFault("folk abcdefgh of 1;baker ^abcdefghi;", 1);
        townsFault("folk a of 1;baker ^" + "a".repeat(24) + ";", 1);
        townsFault("^" + "folk".repeat(250), 1);
        townsFault("folk ann of 1;baker ^annn;", 2);
    }

    @Sentence(promise = 3, says = "NUMBERS (1 to 4 digits; a letter may stand right behind)")
    private static void longestNumber() {
        due("4 digits", told("folk a of 0001;folk b of 0002;").count(1), 1);
        townsFault("folk a of ^9999;", 4);
        townsFault("folk a of ^10000;", 1);
        townsFault("folk a of ^00001;", 1);
        townsFault("folk a of ^" + "1".repeat(30) + ";", 1);
        townsFault("folk a of 1^b;", 1);
        townsFault("folk a of 1^of;", 1);
        townsFault("folk a of ^3b;", 4);
        townsFault("folk a of ^12345b;", 1);
    }

    @Sentence(promise = 3, says = "All else (a longer WORD or NUMBER, too, at its first sign) is none.")
    private static void eachOtherSignIsNone() {
        for (int sign = 33; sign < 127; sign++) {
            if (sign >= 'a' && sign <= 'z' || sign >= '0' && sign <= '9' || sign == ';' || sign == '^') {
                continue;
            }
            townsFault("^" + (char) sign, 1);
            townsFault("folk ab^" + (char) sign + "c of 1;", 1);
            townsFault("folk a of ^" + (char) sign + "1;", 1);
            townsFault("folk a of 1;^" + (char) sign, 1);
        }
        TwoTowns x = new TwoTowns();
        feed(x, "folk a^ of 1;");
        due("the sign 94", x.towns(), 1 + 16 * 6);
    }

    @Sentence(promise = 3, says = "of the town 1 or 2, 4 at most of each, numbered as told, each town from 0 on")
    private static void fourOfEachTown() {
        due("four of the first", plain(4, 0).count(0), 4);
        due("four of the second", plain(0, 4).count(1), 4);
        townsFault(FOUR_EACH + "folk i of ^1;", 5);
        townsFault(FOUR_EACH + "folk i of ^2;", 5);
        townsFault("folk a of 1;folk b of 1;folk c of 1;folk d of 1;folk i of ^1;", 5);
        townsFault("folk a of 2;folk b of 2;folk c of 2;folk d of 2;folk i of ^2;", 5);
        TwoTowns x = told("folk a of 2;folk b of 1;folk c of 2;folk d of 1;baker c;baker b;");
        due("numbered from 0 on", x.count(4), 1);
        due("each town for itself", x.count(5), 2);
    }

    @Sentence(promise = 3, says = "baker, widow: FOLK told, each once so.")
    private static void eachOnceSo() {
        for (String verb : new String[] {"baker", "widow"}) {
            townsFault("folk a of 1;" + verb + " a;" + verb + " ^a;", 3);
            townsFault("folk a of 1;folk b of 2;" + verb + " b;" + verb + " a;" + verb + " ^b;", 3);
            townsFault(verb + " ^a;folk a of 1;", 2);
            townsFault("folk a of 1;" + verb + " ^b;", 2);
        }
        TwoTowns x = told("folk a of 1;baker a;widow a;");
        due("both at once", x.count(4) + x.count(6), 2);
    }

    @Sentence(promise = 3, says = "near: two FOLK told of one town, not the same, each pair once.")
    private static void eachPairNearOnce() {
        String folk = "folk a of 1;folk b of 1;folk c of 2;folk d of 2;";
        townsFault(folk + "near a b;near a ^b;", 3);
        townsFault(folk + "near a b;near b ^a;", 3);
        townsFault(folk + "near d c;near c ^d;", 3);
        townsFault(folk + "near a ^a;", 3);
        townsFault(folk + "near a ^c;", 3);
        townsFault(folk + "near c ^a;", 3);
        townsFault(folk + "near a ^e;", 2);
        townsFault(folk + "near ^e a;", 2);
        due("as well as a debt", told(folk + "owes a b;near a b;").folk(0, 0, 2), 2);
    }

    @Sentence(promise = 3, says = "owes: two FOLK told of one town, not the same, the first one owes the second"
            + " one, each once so.")
    private static void eachDebtOnce() {
        String folk = "folk a of 1;folk b of 1;folk c of 2;folk d of 2;";
        townsFault(folk + "owes a b;owes a ^b;", 3);
        townsFault(folk + "owes d c;owes c d;owes d ^c;", 3);
        townsFault(folk + "owes b ^b;", 3);
        townsFault(folk + "owes b ^d;", 3);
        townsFault(folk + "owes d ^b;", 3);
        townsFault(folk + "owes a ^e;", 2);
        townsFault(folk + "owes ^e a;", 2);
        TwoTowns x = told(folk + "owes a b;owes b a;owes c d;");
        due("both ways", x.folk(0, 0, 3) + x.folk(0, 1, 3), 3);
        due("one way", x.folk(1, 0, 3), 2);
        due("not the other way", x.folk(1, 1, 3), 0);
    }

    @Sentence(promise = 3, says = "A NAME is another WORD than folk, of, baker, widow, near, owes, not, and, or,"
            + " some, all, two,"
            + " same, x, y, z, u; no two are alike.")
    private static void reservedWordsAreNoNames() {
        for (String word : RESERVED.split(" ")) {
            townsFault("folk ^" + word + " of 1;", 1);
            townsFault("folk a of 1;baker ^" + word + ";", 1);
            townsFault("folk a of 1;widow ^" + word + ";", 1);
            townsFault("folk a of 1;near ^" + word + " a;", 1);
            townsFault("folk a of 1;owes a ^" + word + ";", 1);
            due("a longer one", told("folk " + word + "s of 1;").count(0), 1);
            due("two of them", told("folk " + word + "v of 1;folk v" + word + " of 2;").count(1), 1);
        }
        TwoTowns x = told("folk v of 1;folk w of 1;folk fol of 2;folk bake of 2;folk t of 2;");
        due("parts of them, and other letters", x.count(0) + x.count(1), 5);
    }

    @Sentence(promise = 3, says = "no two are alike")
    private static void namesThatAreNearlyAlike() {
        TwoTowns x = told("folk ann of 1;folk an of 1;folk anna of 1;folk ana of 1;baker anna;widow an;");
        due("anna", x.count(4), 4);
        due("an", x.count(6), 2);
        townsFault("folk ann of 1;folk ^ann of 2;", 3);
        townsFault("folk ann of 1;folk an of 1;folk ^an of 1;", 3);
        townsFault(FOUR_EACH + "folk ^a of 1;", 3);
        townsFault(FOUR_EACH + "folk ^h of 1;", 3);
    }

    @Sentence(promise = 3, says = "the end being one at the text's length")
    private static void townsEndTooSoon() {
        String folk = "folk a of 1;folk b of 1;";
        String[] cut = {"folk", "folk c", "folk c of", "folk c of 1", "baker", "baker a", "widow", "widow a", "near",
                "near a", "near a b", "owes", "owes a", "owes a b"};
        for (String text : cut) {
            for (String behind : new String[] {"", " ", "\n", "  \n  "}) {
                townsFault(folk + text + behind + "^", 1);
            }
        }
        String longest = folk + " ".repeat(996 - folk.length()) + "folk^";
        townsFault(longest, 1);
        for (String behind : new String[] {"", " ", "\n\n"}) {
            due("behind a ; it may end", told(folk + behind).count(0), 2);
        }
    }

    @Sentence(promise = 3, says = "of the first token from the left that is wrong the least")
    private static void firstFaultFromTheLeft() {
        townsFault("folk a of ^3;folk a of 1;?", 4);
        townsFault("folk a of 1;folk ^a off;", 3);
        townsFault("folk a of 1;baker ^b;baker a;baker a;", 2);
        townsFault("folk a of 1;near ^b b;", 2);
        townsFault("folk a of 1;near a ^a ? ;", 3);
        townsFault("folk a of 1;near a ^;", 1);
        townsFault("folk a ^x 3;", 1);
        townsFault("^a folk of;", 1);
        townsFault("folk a of ^3", 4);
    }

    @Sentence(promise = 3, says = "1 it is none, or can't stand there")
    private static void eachTokenInEachPlace() {
        String[][] forms = {{"folk", "new", "of", "1", ";"}, {"baker", "b", ";"}, {"widow", "b", ";"}, {"near", "a",
                "b", ";"}, {"owes", "a", "b", ";"}};
        String[] tokens = {"folk", "of", "baker", "widow", "near", "owes", "not", "same", "x", "a", "zed", "1", "2",
                "12345", "abcdefghi", ";", "?", "A"};
        for (String[] form : forms) {
            for (int place = 0; place < form.length; place++) {
                for (String token : tokens) {
                    int kind = kindOf(form, place, token);
                    if (kind != 0) {
                        townsFault("folk a of 1;folk b of 1;" + withToken(form, place, token), kind);
                    }
                }
            }
        }
    }

    /** By the document: the kind of fault of a token at a place of a statement, 0 if it may stand there. */
    private static int kindOf(String[] form, int place, String token) {
        boolean isName = token.equals("a") || token.equals("zed");
        switch (form[place]) {
            case "new": return token.equals("a") ? 3 : isName ? 0 : 1;
            case "1": return token.equals("1") || token.equals("2") ? 0 : 1;
            case ";": return token.equals(";") ? 0 : 1;
            case "of": return token.equals("of") ? 0 : 1;
            case "a": return token.equals("zed") ? 2 : isName ? 0 : 1;
            case "b": return token.equals("zed") ? 2 : !isName ? 1 : place == 2 ? 3 : 0;
            default: return List.of("folk", "baker", "widow", "near", "owes").contains(token) ? 0 : 1;
        }
    }

    private static String withToken(String[] form, int place, String token) {
        StringBuilder b = new StringBuilder();
        for (int i = 0; i < form.length; i++) {
            b.append(i == place ? " ^" + token : " " + form[i]);
        }
        return b.toString();
    }

    @Sentence(promise = 3, says = "2 a NAME of nobody told")
    private static void nobodyTold() {
        for (String verb : new String[] {"baker", "widow", "near", "owes"}) {
            townsFault(verb + " ^a", 2);
            townsFault("folk a of 1;" + verb + " ^aa", 2);
            townsFault("folk ab of 1;" + verb + " ^a", 2);
            townsFault("folk ab of 1;" + verb + " ^ac", 2);
        }
        townsFault("near ^a a;folk a of 1;", 2);
        // ann is told in what stays, but not in this text.
        TwoTowns x = told("folk ann of 1;");
        feed(x, "folk b of 1;baker ann;");
        due("told in an earlier text alone", x.towns(), 2 + 16 * 18);
    }

    @Sentence(promise = 3, says = "4 a NUMBER that is not as told")
    private static void noSuchNumber() {
        for (String number : new String[] {"0", "3", "4", "9", "00", "10", "11", "12", "20", "22", "100", "0000",
                "0003", "9999"}) {
            townsFault("folk a of ^" + number + ";", 4);
        }
        townsFault(FOUR_EACH + "folk i of ^3;", 4);
        townsFault(FOUR_EACH + "folk i of ^0;", 4);
    }

    @Sentence(promise = 3, says = "5 one too many: the NUMBER of a town of four FOLK")
    private static void townOfFourIsFull() {
        townsFault("folk a of 1;folk b of 1;folk c of 1;folk d of 1;folk e of 2;folk f of ^1;", 5);
        townsFault("folk a of 1;folk e of 2;folk f of 2;folk g of 2;folk h of 2;folk i of ^2;", 5);
        townsFault("folk a of 1;folk e of 2;folk f of 2;folk g of 2;folk h of 2;folk i of ^02", 5);
        TwoTowns x = told("folk a of 1;folk b of 1;folk c of 1;folk d of 1;folk e of 2;folk f of 2;");
        due("the other town is not full", x.count(1), 2);
    }

    @Sentence(promise = 3, says = "0, or its FAULT (all stays then).")
    private static void allStaysBehindAFault() {
        TwoTowns x = busy();
        String before = shown(x);
        feed(x, "folk q of 1;baker q;folk r of 2;near q r;");
        due("a fault at the end", x.towns(), 3 + 16 * 39);
        same("all stays", shown(x), before);
        due("it can be undone still", x.undo(), true);
        due("the pair", x.count(2), 0);
        due("the mark stays", x.mark(1, true), true);
        due("no other one is there", x.mark(0, true), false);
        TwoTowns y = plain(1, 0);
        y.point(0, 0, -1);
        feed(y, "?");
        y.towns();
        due("found out still", y.count(3), 1);
    }

    @Sentence(promise = 3, says = "nobody is pointed at, no CLAIM, nothing REPORTED, nothing can be undone, no MARK"
            + " is there")
    private static void newTownsForgetAll() {
        for (String text : new String[] {"", FOUR_EACH, "folk a of 1;"}) {
            TwoTowns x = busy();
            x.mark(0, false);
            x.mark(2, false);
            x.mark(3, false);
            feed(x, text);
            due("towns()", x.towns(), 0);
            for (int what = 2; what < 12; what++) {
                due("count(" + what + ")", x.count(what), 0);
            }
            due("nobody is pointed at", x.folk(0, 0, 5), text.isEmpty() ? -2 : -1);
            due("nothing reported", x.lost(0), 75);
            due("no claim", x.measure(0), -1);
            due("nothing can be undone", x.undo(), false);
            for (int mark = 0; mark < 4; mark++) {
                due("no mark", x.mark(mark, true), false);
            }
        }
    }

    @Sentence(promise = 3, says = "Without a FAULT TOWNS are the TOWNS from then on")
    private static void newTownsAreNotFoundOut() {
        TwoTowns x = plain(1, 0);
        x.point(0, 0, -1);
        feed(x, "folk a of 1;folk b of 1;baker b;");
        due("towns()", x.towns(), 0);
        due("not found out", x.count(3), 0);
        due("left()", x.left(), 1);
        due("two", x.count(0), 2);
        feed(x, "folk a of 1;");
        x.towns();
        due("what was told before is gone", x.count(4), 0);
        due("one", x.count(0), 1);
    }

    @Sentence(promise = 3, says = "Without a FAULT TOWNS are the TOWNS from then on")
    private static void townsAgainAndAgain() {
        TwoTowns x = new TwoTowns();
        String all = "baker a;widow a;near a b;owes a b;owes b a;baker e;widow e;near e f;owes e f;owes f e;";
        for (int i = 0; i < 4; i++) {
            feed(x, FOUR_EACH + all);
            due("with all", x.towns(), 0);
            due("bakers", x.count(4) + x.count(5), 2);
            feed(x, FOUR_EACH + "baker ^;");
            due("a fault", x.towns(), 1 + 16 * 102);
            due("bakers still", x.count(4) + x.count(5), 2);
            feed(x, FOUR_EACH);
            due("with nothing", x.towns(), 0);
            for (int who = 0; who < 8; who++) {
                for (int what = 0; what < 5; what++) {
                    due("nothing is left of it", x.folk(who / 4, who % 4, what), 0);
                }
            }
        }
    }

    // ---- promise 4: claim ----

    @Sentence(promise = 4, says = "CLAIM: one S: not S, and S S, or S S, some V S")
    private static void oneSentenceNoneAndMore() {
        claimFault("^", 1);
        claimFault(" ^", 1);
        claimFault("\n \n^", 1);
        claimFault(" ".repeat(1000) + "^", 1);
        claimFault("some x baker x ^some x baker x", 1);
        claimFault("some x baker x ^baker x", 1);
        claimFault("some x baker x ^;", 1);
        claimFault("some x baker x ^x", 1);
        claimFault("some x baker x^1", 1);
        claimFault("some x baker x^?", 1);
        due("blanks behind it", claimed("some x baker x \n ").count(8), 1);
    }

    @Sentence(promise = 4, says = "The TAPE is read as a CLAIM, likewise.")
    private static void claimFaultLeavesAll() {
        TwoTowns x = new TwoTowns();
        feed(x, "some x baker");
        due("a fault", x.claim(), 1 + 16 * 12);
        due("no claim", x.count(8), 0);
        due("the tape is taken", x.count(11), 0);
        TwoTowns y = busy();
        feed(y, "all x all y all z baker u");
        due("a fault at the end", y.claim(), 2 + 16 * 24);
        due("the old one's length", y.measure(2), 2);
        due("the old one's names", y.measure(1), 1);
        due("the old one's depth", y.measure(0), 1);
        due("the old one's models", y.models(), 63);
        due("so", y.so(0), 1);
    }

    @Sentence(promise = 4, says = "A CLAIM is the CLAIM.")
    private static void claimLeavesAllElse() {
        TwoTowns x = busy();
        say(x, "all x baker x");
        int[] want = {4, 4, 1, 0, 1, 1, 8, 8, 1, 1, 3, 0};
        for (int what = 0; what < 12; what++) {
            due("count(" + what + ")", x.count(what), want[what]);
        }
        due("what was reported stays", x.lost(0), 63);
        due("the new claim", x.models(), 12);
        due("the mark stays", x.mark(1, true), true);
    }

    @Sentence(promise = 4, says = "what reads it takes it: it is empty then")
    private static void claimTakesTheTape() {
        TwoTowns x = claimed("some x baker x");
        due("without a fault", x.count(11), 0);
        feed(x, "some x baker x");
        x.claim();
        feed(x, "not");
        due("with a fault", x.claim(), 1 + 16 * 3);
        due("the tape", x.count(11), 0);
        due("an empty one", x.claim(), 1);
    }

    @Sentence(promise = 4, says = "V is x, y, z, u; one of baker, widow, near, owes, same lies within a some, all"
            + " or two of that V")
    private static void eachNameInEachPlace() {
        String[] atoms = {"baker 1", "widow 1", "near 1 2", "owes 1 2", "same 1 2"};
        String[] names = {"x", "y", "z", "u"};
        for (String v : names) {
            for (String quantifier : new String[] {"some", "all", "two"}) {
                due("of " + v, claimed(quantifier + " " + v + " baker " + v).measure(1), 1);
            }
            for (String w : names) {
                for (String atom : atoms) {
                    String text = "some " + v + " " + atom.replace("1", v);
                    if (atom.endsWith("2") && !v.equals(w)) {
                        claimFault(text.replace("2", "^" + w), 2);
                        claimFault("some " + v + " " + atom.replace("1", "^" + w).replace("2", v), 2);
                    } else {
                        due("claim", claimed(text.replace("2", w)).count(8), 1);
                    }
                }
            }
        }
    }

    @Sentence(promise = 4, says = "2 a NAME of nobody told; a V that lies within no some, all or two of it")
    private static void namesWithinNone() {
        claimFault("baker ^x", 2);
        claimFault("not widow ^u", 2);
        claimFault("and some x baker x baker ^x", 2);
        claimFault("or all x baker x some y near y ^x", 2);
        claimFault("some x and some y baker y baker ^y", 2);
        claimFault("and not some x baker x near ^x x", 2);
        claimFault("some x near ^y z", 2);
        due("in both behind and", claimed("some x and baker x widow x").measure(2), 4);
        due("the outer one again", claimed("some x and some x baker x baker x").measure(2), 5);
    }

    @Sentence(promise = 4, says = "the innermost one is meant")
    private static void innermostIsMeant() {
        TwoTowns x = told("folk a of 1;folk b of 1;baker a;widow b;folk c of 2;baker c;widow c;");
        say(x, "some x and baker x some x and widow x not baker x");
        due("another one", x.so(0), 1);
        due("nobody else there", x.so(1), 0);
        say(x, "all x some x baker x");
        due("the inner one", x.so(0), 1);
        say(x, "some x all x baker x");
        due("the inner one", x.so(0), 0);
        say(x, "some x and some x widow x baker x");
        due("the outer one behind it", x.so(0), 1);
        say(x, "some x and all x or baker x widow x and baker x not widow x");
        due("the outer one behind it", x.so(0), 1);
        due("not in the other", x.so(1), 0);
    }

    @Sentence(promise = 4, says = "No S lies within 8 others")
    private static void deepestSentence() {
        for (String word : new String[] {"not", "some x", "all y", "two x"}) {
            due("within 7 others", claimed("some x " + (word + " ").repeat(6) + "baker x").measure(2), 8);
            String within = "some x " + (word + " ").repeat(7);
            claimFault(within + "^baker x", 5);
            claimFault(within + "^not baker x", 5);
            claimFault(within + "^some x baker x", 5);
            claimFault(within + "^of", 1);
            claimFault(within + "^", 1);
        }
        for (String word : new String[] {"and", "or"}) {
            due("the first ones", claimed("some x " + (word + " ").repeat(6) + "baker x"
                    + " baker x".repeat(6)).measure(2),
                    14);
            due("the second ones", claimed("some x " + (word + " baker x ").repeat(6) + "baker x").measure(2), 14);
            claimFault("some x " + (word + " ").repeat(7) + "^baker x", 5);
            claimFault("some x " + (word + " baker x ").repeat(6) + word + " ^baker x", 5);
        }
    }

    @Sentence(promise = 4, says = "an S is 60 S's long at most")
    private static void longestSentence() {
        TwoTowns x = claimed("all x " + sentence(59));
        due("60", x.measure(2), 60);
        due("59", claimed("all x " + sentence(58)).measure(2), 59);
        String longer = "all x " + sentence(60);
        int last = longer.lastIndexOf("baker");
        String most = longer.substring(0, last);
        claimFault(most + "^baker x", 5);
        claimFault(most + "^baker y", 5);
        claimFault(most + "^not", 5);
        claimFault(most + "^some", 5);
        claimFault(most + "^x", 1);
        claimFault(most + "^?", 1);
        claimFault(most + "^", 1);
        claimFault("all x " + sentence(59) + " ^baker x", 1);
        say(x, "all x " + sentence(59));
        due("as long again", x.measure(2), 60);
    }

    /** So many S's, few within one another. */
    private static String sentence(int length) {
        if (length <= 2) {
            return length == 2 ? "not baker x" : "baker x";
        }
        int first = (length - 1) / 2;
        return "and " + sentence(first) + " " + sentence(length - 1 - first);
    }

    @Sentence(promise = 4, says = "5 one too many: the NUMBER of a town of four FOLK; the first word of an S within"
            + " 8 others, or the 61st.")
    private static void bothLimitsAtOnce() {
        String wide = "some x and " + sentence(52) + " not not not not not ";
        due("the 60th within 7 others", claimed(wide + "baker x").measure(2), 60);
        claimFault(wide + "not ^baker y", 5);
        claimFault(wide + "not ^not", 5);
        claimFault(wide + "not ^y", 1);
    }

    @Sentence(promise = 4, says = "the end being one at the text's length")
    private static void claimEndsTooSoon() {
        String[] cut = {"not", "and", "and some x baker x", "or", "or some x baker x", "some", "all", "two", "some x",
                "some x baker", "some x widow", "some x near", "some x near x", "some x owes", "some x owes x",
                "some x same", "some x same x", "some x and baker x"};
        for (String text : cut) {
            for (String behind : new String[] {"", " ", "\n\n"}) {
                claimFault(text + behind + "^", 1);
            }
        }
        claimFault(" ".repeat(997) + "not^", 1);
    }

    @Sentence(promise = 4, says = "1 it is none, or can't stand there")
    private static void eachTokenInAClaim() {
        String[] never = {"folk", "of", "ann", "v", "w", "xx", "xy", "1", "12345", ";", "?", "X", "abcdefghi", "nots"};
        for (String token : never) {
            claimFault("^" + token, 1);
            claimFault("not ^" + token, 1);
            claimFault("and some x baker x ^" + token, 1);
            claimFault("some ^" + token + " baker x", 1);
            claimFault("some x ^" + token, 1);
            claimFault("some x baker ^" + token, 1);
            claimFault("some x near ^" + token + " x", 1);
            claimFault("some x same x ^" + token, 1);
        }
        for (String name : new String[] {"x", "y", "z", "u"}) {
            claimFault("^" + name, 1);
            claimFault("some x ^" + name, 1);
            claimFault("some x not ^" + name, 1);
        }
        for (String word : "baker widow near owes same not and or some all two".split(" ")) {
            claimFault("some ^" + word + " x", 1);
            claimFault("some x baker ^" + word, 1);
            claimFault("some x owes x ^" + word, 1);
            claimFault("some x baker x ^" + word, 1);
        }
    }

    @Sentence(promise = 4, says = "of the first token from the left that is wrong the least")
    private static void firstFaultOfAClaim() {
        claimFault("some x near ^y ?", 2);
        claimFault("some x near ^? y", 1);
        claimFault("some x and baker ^y ;", 2);
        claimFault("^of some v", 1);
        claimFault("not ".repeat(8) + "^not ?", 5);
        claimFault("not ".repeat(7) + "^? not", 1);
    }

    @Sentence(promise = 4, says = "A CLAIM is the CLAIM.")
    private static void claimsAgainAndAgain() {
        TwoTowns x = plain(4, 4);
        for (int i = 0; i < 4; i++) {
            // Of two at least, and of somebody who is near another one.
            claimIs(x, "some x all y two z some u near x u", 4, 4, 5, 4 + 56);
            feed(x, "some x baker ;");
            due("a fault", x.claim(), 1 + 16 * 13);
            claimIs(x, "some x baker x", 1, 1, 2, 63);
            claimIs(x, "not some x same x x", 1, 1, 3, 1);
            feed(x, "some");
            due("a fault", x.claim(), 1 + 16 * 4);
            due("still the last one", x.models(), 1);
            claimIs(x, "two u same u u", 1, 1, 2, 72);
            claimIs(x, "all z all z not widow z", 2, 1, 4, 75);
        }
    }

    private static void claimIs(TwoTowns x, String claim, int depth, int names, int length, int models) {
        say(x, claim);
        due("depth of " + claim, x.measure(0), depth);
        due("names of " + claim, x.measure(1), names);
        due("length of " + claim, x.measure(2), length);
        due("models of " + claim, x.models(), models);
    }

    // ---- promise 5: folk ----

    @Sentence(promise = 5, says = "5: with whom he is in a pair (NONE: in none); -2: others.")
    private static void folkOfNoTownNobodyNoWhat() {
        for (int what = -1; what <= 6; what++) {
            int w = what;
            for (int bad : NO_TOWN) {
                refused("folk(" + bad + ", 0, " + w + ")", x -> x.folk(bad, 0, w), -2);
            }
            for (int bad : NO_FOLK) {
                refused("folk(0, " + bad + ", " + w + ")", x -> x.folk(0, bad, w), -2);
            }
            refused("folk(1, -1, " + w + ")", x -> x.folk(1, -1, w), -2);
        }
        for (int bad : new int[] {-1, 6, 7, -2, 32, Integer.MIN_VALUE, Integer.MAX_VALUE}) {
            refused("folk(0, 0, " + bad + ")", x -> x.folk(0, 0, bad), -2);
        }
    }

    @Sentence(promise = 5, says = "Of one of a town (0, 1)")
    private static void folkOfASmallTown() {
        for (int many = 0; many <= 4; many++) {
            TwoTowns x = plain(many, 4 - many);
            for (int who = 0; who < 5; who++) {
                due(who + " of " + many, x.folk(0, who, 2), who < many ? 0 : -2);
                due(who + " of the other", x.folk(1, who, 5), who < 4 - many ? -1 : -2);
            }
        }
    }

    @Sentence(promise = 5, says = "(NONE: in none)")
    private static void folkInNoPair() {
        TwoTowns x = plain(4, 4);
        x.point(0, 3, 0);
        due("with the first one", x.folk(0, 3, 5), 0);
        due("with the last one", x.folk(1, 0, 5), 3);
        for (int who = 0; who < 3; who++) {
            due("in none", x.folk(0, who, 5), -1);
            due("in none", x.folk(1, who + 1, 5), -1);
        }
    }

    // ---- promise 6: point ----

    @Sentence(promise = 6, says = "NONE: others, one is in a pair, it is FOUND OUT already, somebody is left.")
    private static void pointAtNobody() {
        for (int bad : NO_TOWN) {
            refused("point(" + bad + ", 1, 1)", x -> x.point(bad, 1, 1), -1);
            refused("point(" + bad + ", 1, -1)", x -> x.point(bad, 1, -1), -1);
        }
        for (int bad : NO_FOLK) {
            for (int town = 0; town < 2; town++) {
                int t = town;
                refused("point(" + t + ", " + bad + ", 1)", x -> x.point(t, bad, 1), -1);
                refused("point(" + t + ", " + bad + ", -1)", x -> x.point(t, bad, -1), -1);
                refused("point(" + t + ", 1, " + bad + ")", x -> x.point(t, 1, bad), -1);
            }
        }
        refused("point(0, -1, 1)", x -> x.point(0, -1, 1), -1);
        unchanged(() -> plain(2, 1), "back at one who is not there", x -> x.point(0, 0, 1), -1);
        unchanged(() -> plain(2, 1), "at one who is not there", x -> x.point(1, 1, 0), -1);
    }

    @Sentence(promise = 6, says = "up to four pairs of one of each town, nobody in two")
    private static void nobodyIsInTwoPairs() {
        refused("one is in a pair", x -> x.point(0, 0, 1), -1);
        refused("one of the second town is", x -> x.point(1, 0, 1), -1);
        refused("who is pointed back at is", x -> x.point(0, 1, 0), -1);
        refused("of the first town, too", x -> x.point(1, 1, 0), -1);
        refused("both are", x -> x.point(0, 0, 0), -1);
        Made four = () -> {
            TwoTowns x = plain(4, 4);
            for (int who = 0; who < 4; who++) {
                due("pair " + who, x.point(who % 2, who, who), 1);
            }
            due("four pairs", x.count(2), 4);
            return x;
        };
        for (int who = 0; who < 4; who++) {
            int one = who;
            unchanged(four, "all are in pairs", x -> x.point(0, one, one), -1);
            unchanged(four, "all are in pairs, nobody back", x -> x.point(1, one, -1), -1);
        }
    }

    @Sentence(promise = 6, says = "somebody is left.")
    private static void somebodyIsLeft() {
        refused("from the first town", x -> x.point(0, 1, -1), -1);
        refused("from the second town", x -> x.point(1, 3, -1), -1);
        unchanged(() -> plain(1, 1), "one is left", x -> x.point(0, 0, -1), -1);
        unchanged(() -> plain(4, 1), "one is left", x -> x.point(0, 3, -1), -1);
    }

    @Sentence(promise = 6, says = "If there is nobody left there it is FOUND OUT")
    private static void nobodyIsLeft() {
        for (int many = 0; many < 4; many++) {
            for (int town = 0; town < 2; town++) {
                TwoTowns x = town == 0 ? plain(many + 1, many) : plain(many, many + 1);
                for (int who = 0; who < many; who++) {
                    due("a pair", x.point(town, who, who), 1);
                }
                due("back at one who is not there", x.point(town, many, many), -1);
                due("back at one too far", x.point(town, many, -2), -1);
                due("nobody", x.point(town, many, -1), 0);
                due("found out", x.count(3), 1);
                due("no pair more", x.count(2), many);
                due("he is in none", x.folk(town, many, 5), -1);
                due("it can be undone", x.count(10), many + 1);
                due("no more", x.point(town, many, -1), -1);
            }
        }
    }

    @Sentence(promise = 6, says = "as well if the POSITION is not ALIKE")
    private static void eachWayToBeUnlike() {
        String[] unlike = {"baker a;", "baker e;", "widow a;", "widow e;", "near a b;", "near e f;", "owes a b;",
                "owes b a;", "owes e f;", "owes f e;", "owes a b;owes f e;", "near a b;owes e f;", "baker a;widow e;",
                "baker b;", "widow f;"};
        for (String text : unlike) {
            TwoTowns x = told(FOUR_EACH + text);
            if (x.point(0, 0, 0) == 1) {
                due("the second pair with " + text, x.point(1, 1, 1), 0);
            }
            due("found out with " + text, x.count(3), 1);
            due("left()", x.left(), 0);
        }
        String[] alike = {"baker a;baker e;", "near a b;near e f;", "owes a b;owes e f;", "owes b a;owes f e;",
                "near a c;", "owes d b;", "baker c;", "widow h;"};
        for (String text : alike) {
            TwoTowns x = told(FOUR_EACH + text);
            due("one pair with " + text, x.point(0, 0, 0), 1);
            due("two pairs with " + text, x.point(0, 1, 1), 1);
        }
    }

    @Sentence(promise = 6, says = "When it is FOUND OUT nobody points any more")
    private static void nobodyPointsWhenFoundOut() {
        Made unlike = () -> {
            TwoTowns x = told(FOUR_EACH + "baker a;");
            due("not alike", x.point(0, 0, 0), 0);
            due("a pair all the same", x.count(2), 1);
            return x;
        };
        Made painted = () -> {
            TwoTowns x = plain(4, 4);
            x.point(0, 0, 0);
            x.paint(1, 0, 1);
            return x;
        };
        Made nobody = () -> {
            TwoTowns x = plain(0, 2);
            x.point(1, 0, -1);
            return x;
        };
        unchanged(unlike, "not alike", x -> x.point(0, 1, 1), -1);
        unchanged(unlike, "not alike", x -> x.point(1, 2, 3), -1);
        unchanged(painted, "painted", x -> x.point(0, 1, 1), -1);
        unchanged(nobody, "nobody was left", x -> x.point(1, 1, -1), -1);
        unchanged(nobody, "nobody was left", x -> x.point(1, 0, -1), -1);
    }

    @Sentence(promise = 6, says = "(whether the POSITION is ALIKE goes by how the FOLK are then; where nobody was"
            + " left it stays so)")
    private static void foundOutNoMore() {
        TwoTowns x = told(FOUR_EACH + "baker a;");
        x.point(0, 0, 0);
        due("not alike", x.count(3), 1);
        x.paint(1, 0, 0);
        due("alike now", x.count(3), 0);
        due("one points again", x.point(0, 1, 1), 1);
        x.link(0, 0, 1, 1);
        due("not alike by a debt", x.count(3), 1);
        x.link(1, 1, 0, 1);
        due("nor by one the other way", x.count(3), 1);
        x.link(1, 0, 1, 1);
        x.link(0, 1, 0, 1);
        due("alike by both", x.count(3), 0);
        TwoTowns y = told("folk a of 1;folk b of 1;folk c of 2;");
        y.point(0, 0, 0);
        y.point(0, 1, -1);
        y.paint(0, 0, 0);
        due("nobody left, not alike", y.count(3), 1);
        y.paint(0, 0, 0);
        due("nobody left, alike", y.count(3), 1);
        due("left()", y.left(), 0);
    }

    // ---- promises 7 and 8: paint, link ----

    @Sentence(promise = 7, says = "PAINT (what 0, 1): true; false: others.")
    private static void paintRefused() {
        for (int bad : NO_TOWN) {
            refused("paint(" + bad + ", 0, 0)", x -> number(x.paint(bad, 0, 0)), 0);
        }
        for (int bad : NO_FOLK) {
            refused("paint(0, " + bad + ", 0)", x -> number(x.paint(0, bad, 0)), 0);
            refused("paint(1, " + bad + ", 1)", x -> number(x.paint(1, bad, 1)), 0);
        }
        refused("paint(0, -1, 0)", x -> number(x.paint(0, -1, 0)), 0);
        for (int bad : new int[] {-1, 2, 3, 32, Integer.MIN_VALUE, Integer.MAX_VALUE}) {
            refused("paint(0, 0, " + bad + ")", x -> number(x.paint(0, 0, bad)), 0);
        }
        for (int many = 0; many < 4; many++) {
            int next = many;
            unchanged(() -> plain(next, 4), "one more than there are", x -> number(x.paint(0, next, 1)), 0);
        }
    }

    @Sentence(promise = 7, says = "one is a baker (0), a widow (1) from then on, or is no more")
    private static void paintOnAndOff() {
        for (int i = 0; i < 16; i++) {
            TwoTowns x = plain(4, 4);
            int town = i / 8;
            int who = i % 4;
            int what = i / 4 % 2;
            for (int times = 1; times <= 3; times++) {
                due("paint", x.paint(town, who, what), true);
                for (int count = 4; count < 8; count++) {
                    int want = count == 4 + 2 * what + town && times % 2 == 1 ? 1 << who : 0;
                    due("count(" + count + ")", x.count(count), want);
                }
                due("folk", x.folk(town, who, what), times % 2);
            }
        }
    }

    @Sentence(promise = 7, says = "(whether the POSITION is ALIKE goes by how the FOLK are then")
    private static void paintWhenFoundOut() {
        TwoTowns x = plain(1, 0);
        x.point(0, 0, -1);
        due("paint", x.paint(0, 0, 0), true);
        due("count(4)", x.count(4), 1);
        due("count(10)", x.count(10), 2);
        TwoTowns y = plain(2, 2);
        y.point(0, 0, 0);
        due("paint one in a pair", y.paint(0, 0, 1), true);
        due("found out", y.count(3), 1);
        due("paint one in no pair", y.paint(1, 1, 1), true);
        due("paint when found out", y.paint(1, 0, 1), true);
        due("not any more", y.count(3), 0);
    }

    @Sentence(promise = 8, says = "LINK (what 0, 1): true; false: others, the same.")
    private static void linkRefused() {
        for (int w = 0; w < 2; w++) {
            int what = w;
            for (int bad : NO_TOWN) {
                refused("link(" + bad + ", 0, 1, 0)", x -> number(x.link(bad, 0, 1, what)), 0);
            }
            for (int bad : NO_FOLK) {
                refused("link(0, " + bad + ", 0, 0)", x -> number(x.link(0, bad, 0, what)), 0);
                refused("link(1, 0, " + bad + ", 0)", x -> number(x.link(1, 0, bad, what)), 0);
            }
            refused("link(0, -1, 0, 0)", x -> number(x.link(0, -1, 0, what)), 0);
            refused("link(0, 0, -1, 0)", x -> number(x.link(0, 0, -1, what)), 0);
            for (int i = 0; i < 8; i++) {
                int who = i;
                refused("the same, " + who, x -> number(x.link(who / 4, who % 4, who % 4, what)), 0);
            }
            unchanged(() -> plain(2, 3), "one more than there are", x -> number(x.link(0, 1, 2, what)), 0);
            unchanged(() -> plain(2, 3), "one more than there are", x -> number(x.link(1, 3, 2, what)), 0);
        }
        for (int bad : new int[] {-1, 2, 3, 32, Integer.MIN_VALUE, Integer.MAX_VALUE}) {
            refused("link(0, 0, 1, " + bad + ")", x -> number(x.link(0, 0, 1, bad)), 0);
        }
    }

    @Sentence(promise = 8, says = "two of one town are near (0), the first one owes the second one (1) from then"
            + " on, or no more")
    private static void linkOnAndOff() {
        for (int i = 0; i < 64; i++) {
            int town = i / 32;
            int what = i / 16 % 2;
            int one = i / 4 % 4;
            int other = i % 4;
            if (one == other) {
                continue;
            }
            TwoTowns x = plain(4, 4);
            due("link", x.link(town, one, other, what), true);
            for (int who = 0; who < 8; who++) {
                int near = who == 4 * town + one ? 1 << other : who == 4 * town + other ? 1 << one : 0;
                due("near", x.folk(who / 4, who % 4, 2), what == 0 ? near : 0);
                due("owes", x.folk(who / 4, who % 4, 3), what == 1 && who == 4 * town + one ? 1 << other : 0);
                due("is owed", x.folk(who / 4, who % 4, 4), what == 1 && who == 4 * town + other ? 1 << one : 0);
            }
            due("told the other way", x.link(town, other, one, what), true);
            due("near no more", x.folk(town, one, 2), 0);
            due("both owe", x.folk(town, one, 3) + x.folk(town, other, 3), what == 1 ? (1 << one) + (1 << other) : 0);
            x.link(town, one, other, what);
            due("owes no more", x.folk(town, one, 3), 0);
            due("the other one still", x.folk(town, other, 3), what == 1 ? 1 << one : 0);
        }
    }

    @Sentence(promise = 8, says = "(whether the POSITION is ALIKE goes by how the FOLK are then")
    private static void linkWhenFoundOut() {
        TwoTowns x = plain(2, 0);
        x.point(0, 0, -1);
        due("link", x.link(0, 0, 1, 0), true);
        due("near", x.folk(0, 1, 2), 1);
        due("count(10)", x.count(10), 2);
    }

    // ---- promise 9: undo ----

    @Sentence(promise = 9, says = "UNDO: true; false: nothing can be.")
    private static void undoNothing() {
        unchanged(TwoTowns::new, "a new object", x -> number(x.undo()), 0);
        unchanged(() -> plain(4, 4), "new towns", x -> number(x.undo()), 0);
        unchanged(() -> {
            TwoTowns x = plain(2, 2);
            x.paint(0, 0, 0);
            x.undo();
            return x;
        }, "all is undone", x -> number(x.undo()), 0);
        unchanged(() -> {
            TwoTowns x = busy();
            x.mark(1, true);
            return x;
        }, "a mark gone back to", x -> number(x.undo()), 0);
        unchanged(() -> {
            TwoTowns x = claimed("some x baker x");
            x.report(true);
            x.mark(0, false);
            return x;
        }, "a claim, a report, a mark laid", x -> number(x.undo()), 0);
    }

    @Sentence(promise = 9, says = "UNDO: ROUNDS and these, the last 16, one by one.")
    private static void undoTheLastSixteen() {
        for (int done = 1; done <= 34; done++) {
            TwoTowns x = plain(4, 4);
            List<String> before = new ArrayList<>();
            for (int i = 0; i < done; i++) {
                before.add(links(x));
                due("link", x.link(i % 2, i % 4, (i + 1 + i / 4 % 3) % 4, i / 8 % 2), true);
                due("what can be undone", x.count(10), Math.min(16, i + 1));
            }
            for (int i = 1; i <= Math.min(16, done); i++) {
                due("undo " + i + " of " + done, x.undo(), true);
                same("undone " + i + " of " + done, links(x), before.get(done - i));
            }
            due("no more of " + done, x.undo(), false);
        }
    }

    private static String links(TwoTowns x) {
        StringBuilder b = new StringBuilder();
        for (int i = 0; i < 4; i++) {
            b.append(x.folk(i % 2, i, 2)).append('/').append(x.folk(1 - i % 2, i, 3)).append(' ');
        }
        return b.toString();
    }

    @Sentence(promise = 9, says = "the last 16, one by one")
    private static void undoAndGoOn() {
        TwoTowns x = plain(4, 4);
        for (int i = 0; i < 20; i++) {
            x.paint(0, i % 4, 0);
        }
        for (int i = 0; i < 10; i++) {
            x.undo();
        }
        due("six are left", x.count(10), 6);
        for (int i = 0; i < 10; i++) {
            x.paint(1, i % 4, 1);
        }
        due("16 again", x.count(10), 16);
        x.link(1, 0, 1, 0);
        due("still 16", x.count(10), 16);
        int undone = 0;
        while (undone < 30 && x.undo()) {
            undone++;
        }
        due("16 are undone", undone, 16);
        due("widows of the second", x.count(7), 0);
        due("near", x.folk(1, 0, 2), 0);
        // Of the ten paints that were left of the first town the last five are undone: a is painted twice, the
        // others once.
        due("bakers of the first", x.count(4), 14);
    }

    @Sentence(promise = 9, says = "UNDO: ROUNDS and these")
    private static void undoEachKind() {
        TwoTowns x = told(FOUR_EACH + "baker a;owes b a;near c d;");
        String[] shots = new String[7];
        shots[0] = shown(x);
        x.point(1, 3, 2);
        shots[1] = shown(x);
        x.paint(0, 0, 0);
        shots[2] = shown(x);
        x.paint(1, 3, 1);
        shots[3] = shown(x);
        x.link(0, 3, 2, 0);
        shots[4] = shown(x);
        x.link(0, 1, 0, 1);
        for (int i = 4; i >= 0; i--) {
            due("undo", x.undo(), true);
            same("undone", shown(x), shots[i]);
        }
        due("no more", x.undo(), false);
    }

    @Sentence(promise = 9, says = "UNDO: ROUNDS and these")
    private static void undoEachPairAndEachChange() {
        for (int i = 0; i < 32; i++) {
            int town = i / 16;
            int one = i / 4 % 4;
            int back = i % 4;
            TwoTowns x = plain(4, 4);
            String before = shown(x);
            due("a pair", x.point(town, one, back), 1);
            due("undone", x.undo(), true);
            same("point(" + town + ", " + one + ", " + back + ")", shown(x), before);
            x.point(town, one, back);
            String pair = shown(x);
            for (int[] by : changes(4)) {
                change(x, town, by);
                due("a change undone", x.undo(), true);
            }
            same("the pair stays", shown(x), pair);
            x.undo();
            same("none", shown(x), before);
        }
    }

    @Sentence(promise = 9, says = "UNDO: true;")
    private static void undoWhatFoundItOut() {
        TwoTowns x = plain(1, 0);
        String before = shown(x);
        x.point(0, 0, -1);
        due("nobody was left, undone", x.undo(), true);
        same("not found out", shown(x), before);
        due("once more", x.point(0, 0, -1), 0);
        x.paint(0, 0, 0);
        due("the paint first", x.undo(), true);
        due("found out still", x.count(3), 1);
        x.undo();
        due("not found out", x.count(3), 0);
        TwoTowns y = told("folk a of 1;folk b of 2;folk c of 2;baker b;");
        y.point(0, 0, 0);
        due("found out", y.count(3), 1);
        due("an unlike pair, undone", y.undo(), true);
        due("not found out", y.count(3), 0);
        due("no pair", y.count(2), 0);
        due("he can be pointed at", y.point(0, 0, 1), 1);
    }

    @Sentence(promise = 9, says = "UNDO: ROUNDS and these, the last 16")
    private static void undoLeavesTheClaim() {
        TwoTowns x = plain(2, 2);
        x.paint(0, 0, 0);
        say(x, "some x baker x");
        x.report(true);
        feed(x, "abc");
        due("undo", x.undo(), true);
        due("the claim", x.count(8), 1);
        due("reported", x.count(9), 1);
        due("lost", x.lost(0), 63);
        due("the tape", x.count(11), 3);
        due("no more", x.undo(), false);
    }

    // ---- promises 10 to 13: left, hint, reply, rounds ----

    @Sentence(promise = 10, says = "LEFT: in how many ROUNDS more it is FOUND OUT (0: it is)")
    private static void leftIsNone() {
        TwoTowns unlike = told("folk a of 1;folk b of 2;baker a;");
        due("one round", unlike.left(), 1);
        unlike.point(0, 0, 0);
        due("not alike", unlike.left(), 0);
        unlike.paint(1, 0, 0);
        due("alike", unlike.left(), -1);
        unlike.paint(1, 0, 0);
        due("not alike again", unlike.left(), 0);
        TwoTowns nobody = plain(0, 1);
        nobody.point(1, 0, -1);
        due("nobody was left", nobody.left(), 0);
    }

    @Sentence(promise = 10, says = "LEFT; NONE: never.")
    private static void leftFromFewToNever() {
        for (int first = 0; first <= 4; first++) {
            for (int second = 0; second <= 4; second++) {
                TwoTowns x = plain(first, second);
                int fewer = Math.min(first, second);
                for (int pairs = 0; pairs <= fewer; pairs++) {
                    int want = first == second ? -1 : fewer + 1 - pairs;
                    due(first + " and " + second + ", " + pairs + " pairs", x.left(), want);
                    x.point(pairs % 2, pairs, pairs);
                }
            }
        }
    }

    @Sentence(promise = 11, says = "HINT, as 4 * the town + who; NONE: it is FOUND OUT, or never is.")
    private static void hintOfNobody() {
        unchanged(TwoTowns::new, "nobody there", TwoTowns::hint, -1);
        unchanged(() -> plain(4, 4), "never", TwoTowns::hint, -1);
        unchanged(() -> {
            TwoTowns x = plain(2, 2);
            x.point(0, 0, 1);
            x.point(0, 1, 0);
            return x;
        }, "all are in pairs", TwoTowns::hint, -1);
        unchanged(() -> {
            TwoTowns x = told(FOUR_EACH + "baker a;");
            x.point(0, 0, 0);
            return x;
        }, "not alike", TwoTowns::hint, -1);
        unchanged(() -> {
            TwoTowns x = plain(1, 0);
            x.point(0, 0, -1);
            return x;
        }, "nobody was left", TwoTowns::hint, -1);
    }

    @Sentence(promise = 11, says = "of equal ones the first town's, then the first one")
    private static void hintFromFirstToLast() {
        for (int i = 0; i < 8; i++) {
            TwoTowns x = told(FOUR_EACH + "widow " + (char) ('a' + i) + ";");
            due("at the widow", x.hint(), i);
        }
        due("of equal ones the first town's", plain(1, 2).hint(), 0);
        due("of equal ones the first town's", plain(2, 1).hint(), 0);
        due("nobody in the first town", plain(0, 4).hint(), 4);
        TwoTowns x = told(FOUR_EACH + "widow c;widow d;");
        due("the first one of two", x.hint(), 2);
        x = told(FOUR_EACH + "widow d;baker f;baker g;");
        due("the first town's one", x.hint(), 3);
        x = told(FOUR_EACH + "baker f;baker g;");
        due("the first one of the second town", x.hint(), 5);
        x = plain(3, 4);
        x.point(0, 0, 0);
        due("not at one in a pair", x.hint(), 1);
        x.point(0, 1, 1);
        x.point(0, 2, 2);
        due("at the last one", x.hint(), 7);
    }

    @Sentence(promise = 12, says = "REPLY to one of a town; NONE: others, in a pair, it is FOUND OUT, nobody is left.")
    private static void replyRefused() {
        for (int bad : NO_TOWN) {
            refused("reply(" + bad + ", 1)", x -> x.reply(bad, 1), -1);
        }
        for (int bad : NO_FOLK) {
            refused("reply(0, " + bad + ")", x -> x.reply(0, bad), -1);
            refused("reply(1, " + bad + ")", x -> x.reply(1, bad), -1);
        }
        refused("reply(0, -1)", x -> x.reply(0, -1), -1);
        refused("in a pair", x -> x.reply(0, 0), -1);
        refused("in a pair", x -> x.reply(1, 0), -1);
        unchanged(() -> plain(2, 1), "one who is not there", x -> x.reply(1, 1), -1);
        unchanged(() -> plain(2, 0), "nobody there", x -> x.reply(0, 0), -1);
        Made one = () -> {
            TwoTowns x = plain(2, 1);
            x.point(0, 0, 0);
            return x;
        };
        unchanged(one, "nobody is left", x -> x.reply(0, 1), -1);
        Made unlike = () -> {
            TwoTowns x = told(FOUR_EACH + "baker a;");
            x.point(0, 0, 0);
            return x;
        };
        unchanged(unlike, "not alike", x -> x.reply(0, 1), -1);
        Made nobody = () -> {
            TwoTowns x = plain(2, 1);
            x.point(0, 0, 0);
            x.point(0, 1, -1);
            return x;
        };
        unchanged(nobody, "nobody was left", x -> x.reply(0, 1), -1);
    }

    @Sentence(promise = 12, says = "REPLY: at whom to point back so that it lasts the longest; of equal ones the"
            + " first one.")
    private static void replyFromFirstToLast() {
        for (int i = 0; i < 4; i++) {
            TwoTowns x = told(FOUR_EACH + "widow a;widow " + (char) ('e' + i) + ";");
            due("the widow", x.reply(0, 0), i);
            due("the first one who is none", x.reply(0, 1), i == 0 ? 1 : 0);
            due("from the second town", x.reply(1, i), 0);
        }
        TwoTowns x = told(FOUR_EACH + "widow a;");
        due("all are lost: the first one", x.reply(0, 0), 0);
        x.point(0, 1, 0);
        due("all are lost: the first one left", x.reply(0, 0), 1);
        x.point(0, 2, 1);
        x.point(0, 3, 2);
        due("all are lost: the last one", x.reply(0, 0), 3);
    }

    @Sentence(promise = 12, says = "for ever best")
    private static void replyForEver() {
        // With the first one back it is found out in time, with the last one never.
        TwoTowns x = told(FOUR_EACH + "near a b;near g h;");
        due("to c, who is near nobody", x.reply(0, 2), 0);
        due("to a, who is near somebody", x.reply(0, 0), 2);
        due("to h", x.reply(1, 3), 0);
        x.point(0, 0, 2);
        due("to b", x.reply(0, 1), 3);
        due("to e", x.reply(1, 0), 2);
    }

    @Sentence(promise = 12, says = "the other one so that it lasts as long as can be")
    private static void replyThatLastsARoundLonger() {
        TwoTowns x = told("folk a of 1;folk b of 1;folk e of 2;folk f of 2;baker e;");
        due("not at the baker, it is found out at once", x.reply(0, 0), 1);
        due("nor there", x.reply(0, 1), 1);
        due("to the baker: the first one", x.reply(1, 0), 0);
        x.point(0, 0, 1);
        due("the baker is left", x.reply(0, 1), 0);
    }

    @Sentence(promise = 13, says = "ROUNDS; NONE: never.")
    private static void roundsFromOneToNever() {
        for (int first = 0; first <= 4; first++) {
            for (int second = 0; second <= 4; second++) {
                int want = first == second ? -1 : Math.min(first, second) + 1;
                due(first + " and " + second, plain(first, second).rounds(), want);
            }
        }
        due("found out by marks", told(FOUR_EACH + "baker a;widow e;").rounds(), 1);
    }

    @Sentence(promise = 13, says = "ROUNDS: LEFT from no pairs.")
    private static void roundsWhateverWasPointedAt() {
        TwoTowns x = plain(2, 3);
        x.point(0, 0, 0);
        due("one pair", x.rounds(), 3);
        due("left()", x.left(), 2);
        x.point(0, 1, 1);
        x.point(1, 2, -1);
        due("nobody was left", x.rounds(), 3);
        TwoTowns y = told(FOUR_EACH + "baker a;baker f;");
        y.point(0, 0, 0);
        due("found out", y.left(), 0);
        due("never from no pairs", y.rounds(), -1);
    }

    // ---- promises 14 to 16: sided, keeps, hands ----

    @Sentence(promise = 14, says = "SIDED, by the town in which one points; NONE: others, never.")
    private static void sidedRefused() {
        for (int bad : NO_TOWN) {
            refused("sided(" + bad + ")", x -> x.sided(bad), -1);
            unchanged(() -> plain(1, 4), "sided(" + bad + ")", x -> x.sided(bad), -1);
        }
    }

    @Sentence(promise = 14, says = "SIDED: likewise, if one may point in one town alone, to be pointed back at in"
            + " the other one.")
    private static void sidedFromOneToNever() {
        for (int first = 0; first <= 4; first++) {
            for (int second = 0; second <= 4; second++) {
                TwoTowns x = plain(first, second);
                due(first + " to " + second, x.sided(0), first > second ? second + 1 : -1);
                due(second + " to " + first, x.sided(1), second > first ? first + 1 : -1);
            }
        }
        TwoTowns x = told(FOUR_EACH + "baker a;");
        due("at the baker", x.sided(0), 1);
        due("all four", x.sided(1), 4);
        x.point(0, 0, 0);
        due("found out, from no pairs", x.sided(1), 4);
    }

    @Sentence(promise = 14, says = "if one may point in one town alone")
    private static void sidedAloneIsSided() {
        // What is asked behind it is of both towns again.
        for (int town = 0; town < 2; town++) {
            TwoTowns x = told("folk a of 1;folk b of 1;folk c of 1;folk e of 2;folk f of 2;folk g of 2;"
                    + "near a b;near b c;near e f;");
            due("sided", x.sided(town), 3);
            due("left()", x.left(), 2);
            x.sided(town);
            due("rounds()", x.rounds(), 2);
            x.sided(town);
            due("hint()", x.hint(), 1);
            x.sided(town);
            due("reply()", x.reply(0, 0), 0);
            x.sided(town);
            due("keeps()", x.keeps(0, 1, 1), 0);
            x.sided(town);
            due("keeps()", x.keeps(0, 0, 1), 3);
            x.sided(town);
            due("mend()", x.mend(2), 1);
        }
    }

    @Sentence(promise = 15, says = "KEEPS, as bits; NONE: others.")
    private static void keepsRefused() {
        for (int bad : NO_TOWN) {
            refused("keeps(" + bad + ", 0, 1)", x -> x.keeps(bad, 0, 1), -1);
        }
        for (int bad : NO_FOLK) {
            refused("keeps(0, " + bad + ", 0)", x -> x.keeps(0, bad, 0), -1);
            refused("keeps(1, " + bad + ", 4)", x -> x.keeps(1, bad, 4), -1);
        }
        refused("keeps(0, -1, 0)", x -> x.keeps(0, -1, 0), -1);
        unchanged(() -> plain(1, 2), "one who is not there", x -> x.keeps(0, 1, 0), -1);
        unchanged(() -> plain(1, 0), "nobody there", x -> x.keeps(1, 0, 0), -1);
    }

    @Sentence(promise = 15, says = "KEEPS for so many (0 to 4) ROUNDS")
    private static void keepsFromNoneToFour() {
        for (int bad : new int[] {-1, 5, 6, -2, 32, Integer.MIN_VALUE, Integer.MAX_VALUE}) {
            refused("keeps(0, 0, " + bad + ")", x -> x.keeps(0, 0, bad), -1);
        }
        for (int rounds = 0; rounds <= 4; rounds++) {
            for (int many = 0; many <= 4; many++) {
                TwoTowns x = plain(1, many);
                due("1 and " + many + ", " + rounds, x.keeps(0, 0, rounds),
                        many == 1 || rounds < 1 ? (1 << many) - 1 : 0);
                TwoTowns y = plain(4, many);
                int want = many == 4 || rounds < many ? (1 << many) - 1 : 0;
                due("4 and " + many + ", " + rounds, y.keeps(0, 3, rounds), want);
                if (many > 0) {
                    due(many + " and 4, " + rounds, y.keeps(1, many - 1, rounds), want == 0 ? 0 : 15);
                }
            }
        }
    }

    @Sentence(promise = 15, says = "in a pair with one, and no other pairs, is such that it is not FOUND OUT in so"
            + " many")
    private static void keepsWhateverWasPointedAt() {
        TwoTowns x = told(FOUR_EACH + "baker a;baker h;");
        due("no round: marks alone", x.keeps(0, 0, 0), 8);
        due("no round: marks alone", x.keeps(0, 1, 0), 7);
        due("for four", x.keeps(1, 3, 4), 1);
        x.point(0, 0, 0);
        due("found out", x.count(3), 1);
        due("no other pairs", x.keeps(0, 0, 4), 8);
        due("no other pairs", x.keeps(1, 0, 4), 14);
    }

    @Sentence(promise = 16, says = "HANDS of so many (1 to 3)")
    private static void handsRefused() {
        for (int bad : new int[] {0, 4, 5, -1, -2, 32, 33, Integer.MIN_VALUE, Integer.MAX_VALUE}) {
            refused("hands(" + bad + ")", x -> x.hands(bad), -1);
            unchanged(() -> plain(0, 4), "hands(" + bad + ")", x -> x.hands(bad), -1);
        }
    }

    @Sentence(promise = 16, says = "HANDS; NONE: others, never.")
    private static void handsCountSoFar() {
        for (int first = 0; first <= 4; first++) {
            for (int second = 0; second <= 4; second++) {
                TwoTowns x = plain(first, second);
                int fewer = Math.min(first, second);
                for (int many = 1; many <= 3; many++) {
                    boolean parted = first != second && fewer < many;
                    due(first + " and " + second + " by " + many, x.hands(many), parted ? fewer + 1 : -1);
                }
            }
        }
    }

    @Sentence(promise = 16, says = "two are on one in one town and on two in the other one, or if there is nobody"
            + " to put it on")
    private static void handsOnNobody() {
        for (int many = 1; many <= 3; many++) {
            due("nobody in the second town", plain(4, 0).hands(many), 1);
            due("nobody in the first town", plain(0, 1).hands(many), 1);
            due("nobody in either", new TwoTowns().hands(many), -1);
            due("by a mark", told(FOUR_EACH + "baker d;").hands(many), 1);
        }
        due("two on one", plain(1, 2).hands(2), 2);
    }

    @Sentence(promise = 16, says = "each inspector has so many, none put on at first")
    private static void handsWhateverWasPointedAt() {
        TwoTowns x = told(FOUR_EACH + "baker a;baker b;baker e;");
        due("two hands", x.hands(2), 2);
        x.point(0, 0, 0);
        due("two hands", x.hands(2), 2);
        x.paint(1, 1, 0);
        due("never", x.hands(3), -1);
        x.point(0, 1, 3);
        due("found out", x.count(3), 1);
        due("never all the same", x.hands(3), -1);
    }

    @Sentence(promise = 16, says = "puts one of his, put on or not, on somebody in either town (whoever else has a"
            + " hand on him)")
    private static void handsTakenOffAgain() {
        // A hand on h (back: c), one on f (back: a), the first one taken off and put on g: a owes nobody.
        TwoTowns x = told(FOUR_EACH + "owes b c;owes c a;owes d a;owes e h;owes h f;owes f g;");
        due("by two hands", x.hands(2), 3);
        due("by one hand", x.hands(1), -1);
        TwoTowns y = told(FOUR_EACH + "near a b;near b c;near c d;near d a;near e f;near f g;near g h;");
        due("a ring and a row by two", y.hands(2), -1);
        due("a ring and a row by three", y.hands(3), 3);
    }

    @Sentence(promise = 16, says = "none put on at first; in each ROUND the first one puts one of his")
    private static void handsAskedAgainAndAgain() {
        TwoTowns x = plain(4, 4);
        for (int i = 0; i < 3; i++) {
            for (int many = 3; many >= 1; many--) {
                due("never", x.hands(many), -1);
            }
            x.link(0, 0, 1, 0);
            due("one hand sees no neighbour", x.hands(1), -1);
            due("two hands do", x.hands(2), 2);
            due("three hands do", x.hands(3), 2);
            x.paint(1, 3, 1);
            for (int many = 1; many <= 3; many++) {
                due("by the widow", x.hands(many), 1);
            }
            x.undo();
            x.undo();
        }
    }

    // ---- promises 17 to 20: colours, ways, selves, orbit ----

    @Sentence(promise = 17, says = "COLOURS, what 0: how often, 1: how many, 2: 1 unlike many; NONE: others.")
    private static void coloursRefused() {
        for (int bad : new int[] {-1, 3, 4, -2, 32, Integer.MIN_VALUE, Integer.MAX_VALUE}) {
            refused("colours(" + bad + ")", x -> x.colours(bad), -1);
        }
        TwoTowns x = new TwoTowns();
        for (int what = 0; what < 3; what++) {
            due("of nobody", x.colours(what), 0);
        }
    }

    @Sentence(promise = 17, says = "till there are no more of them than ahead")
    private static void coloursFromOneToEight() {
        coloursAre(plain(1, 1), 0, 1, 0);
        coloursAre(plain(1, 0), 0, 1, 1);
        coloursAre(plain(0, 4), 0, 1, 1);
        coloursAre(plain(3, 4), 0, 1, 1);
        coloursAre(plain(4, 4), 0, 1, 0);
        // Two rows of debts, one of widows: ends and middles are told, then the two of the middle.
        coloursAre(told(FOUR_EACH
                + "widow e;widow f;widow g;widow h;owes a b;owes b c;owes c d;owes e f;owes f g;owes g h;"),
                2, 8, 1);
        // By how many one owes, then by whom, then d and g, and b and f, who are owed by them, the last.
        coloursAre(told(FOUR_EACH + "baker a;owes c d;owes d b;owes d c;owes e h;owes g e;owes g f;owes h g;"), 4, 8,
                1);
        // By marks alone all are told: nothing is done anew with more.
        coloursAre(told(FOUR_EACH + "baker a;baker b;widow b;widow c;baker e;baker f;widow f;widow g;"), 0, 4, 0);
        coloursAre(told(FOUR_EACH + "near a b;near c d;near e f;near g h;"), 0, 1, 0);
        coloursAre(told(FOUR_EACH + "near a b;near e f;"), 1, 2, 0);
        coloursAre(told(FOUR_EACH + "near a b;"), 1, 2, 1);
        // A row with a baker at its end: from there on one after the other is told.
        coloursAre(told("folk a of 1;folk b of 1;folk c of 1;folk d of 1;near a b;near b c;near c d;near d a;baker"
                + " a;"), 1, 3, 1);
        coloursAre(told("folk a of 1;folk b of 1;folk c of 1;folk d of 1;near a b;near b c;near c d;baker a;"), 1, 4,
                1);
    }

    private static void coloursAre(TwoTowns x, int often, int many, int unlike) {
        due("how often", x.colours(0), often);
        due("how many", x.colours(1), many);
        due("unlike", x.colours(2), unlike);
    }

    @Sentence(promise = 17, says = "whether some COLOUR is of unlike many in both towns")
    private static void coloursOfUnlikeMany() {
        // As many colours, as many folk, but two of one and one of the other.
        coloursAre(told("folk a of 1;folk b of 1;folk c of 1;folk e of 2;folk f of 2;folk g of 2;baker a;baker"
                + " b;baker e;"),
                0, 2, 1);
        coloursAre(told("folk a of 1;folk b of 1;folk e of 2;folk f of 2;baker a;baker f;"), 0, 2, 0);
        coloursAre(told("folk a of 1;folk b of 1;folk e of 2;folk f of 2;owes a b;owes f e;"), 1, 2, 0);
        coloursAre(told("folk a of 1;folk b of 1;folk e of 2;folk f of 2;owes a b;near f e;"), 1, 3, 1);
    }

    @Sentence(promise = 17, says = "who are of one COLOUR, and are near to as many of each COLOUR, owe as many of"
            + " each, are owed by as many of each")
    private static void coloursOfTheOtherTownAlone() {
        // e and f are told apart by g and h, whose colours, like theirs, are of no one of the first town.
        coloursAre(told(FOUR_EACH + "baker b;widow c;baker d;widow d;baker g;baker h;near e g;near f h;owes g h;"), 2,
                8, 1);
        coloursAre(told(FOUR_EACH + "owes a b;owes a c;owes e f;owes f e;"), 1, 4, 1);
        coloursAre(told(FOUR_EACH + "near a b;near b c;near c a;near e f;near f g;near g e;"), 1, 2, 0);
        coloursAre(told(FOUR_EACH + "owes a b;owes b c;owes c a;owes e g;owes g f;owes f e;"), 1, 2, 0);
        coloursAre(told(FOUR_EACH
                + "near a b;near b c;near c d;near d a;near e f;near f g;near g h;near h e;near e g;"), 2, 3, 1);
    }

    @Sentence(promise = 17, says = "how often it was done anew with more of them; how many there are")
    private static void coloursAskedAgainAndAgain() {
        TwoTowns x = plain(4, 4);
        for (int i = 0; i < 3; i++) {
            coloursAre(x, 0, 1, 0);
            x.link(0, 0, 1, 1);
            coloursAre(x, 1, 3, 1);
            coloursAre(x, 1, 3, 1);
            x.paint(1, 3, 0);
            coloursAre(x, 1, 4, 1);
            x.undo();
            x.undo();
        }
    }

    @Sentence(promise = 18, says = "WAYS: of pairing all FOLK of the first town with all of the second one so that"
            + " it is ALIKE.")
    private static void waysFromNoneToAll() {
        int[] all = {1, 1, 2, 6, 24};
        for (int first = 0; first <= 4; first++) {
            for (int second = 0; second <= 4; second++) {
                due(first + " and " + second, plain(first, second).ways(), first == second ? all[first] : 0);
            }
        }
        due("unlike marks", told("folk a of 1;folk b of 2;baker a;").ways(), 0);
        due("one way", told(FOUR_EACH + "owes a b;owes b c;owes c d;owes h g;owes g f;owes f e;").ways(), 1);
        TwoTowns x = told(FOUR_EACH + "baker a;baker f;");
        x.point(0, 0, 0);
        due("whatever was pointed at", x.ways(), 6);
    }

    @Sentence(promise = 19, says = "SELVES, how many; NONE: others.")
    private static void selvesFromOneToAll() {
        for (int bad : NO_TOWN) {
            refused("selves(" + bad + ")", x -> x.selves(bad), -1);
        }
        int[] all = {1, 1, 2, 6, 24};
        for (int many = 0; many <= 4; many++) {
            TwoTowns x = plain(many, 4 - many);
            due("the first of " + many, x.selves(0), all[many]);
            due("the second of " + (4 - many), x.selves(1), all[4 - many]);
        }
        due("one way", told(FOUR_EACH + "owes e f;owes f g;owes g h;").selves(1), 1);
    }

    @Sentence(promise = 20, says = "ORBIT, as bits; NONE: others.")
    private static void orbitRefused() {
        for (int bad : NO_TOWN) {
            refused("orbit(" + bad + ", 0)", x -> x.orbit(bad, 0), -1);
        }
        for (int bad : NO_FOLK) {
            refused("orbit(0, " + bad + ")", x -> x.orbit(0, bad), -1);
            refused("orbit(1, " + bad + ")", x -> x.orbit(1, bad), -1);
        }
        refused("orbit(0, -1)", x -> x.orbit(0, -1), -1);
        for (int many = 0; many < 4; many++) {
            int next = many;
            unchanged(() -> plain(next, 4), "one more than there are", x -> x.orbit(0, next), -1);
        }
    }

    @Sentence(promise = 20, says = "ORBIT: to whom one goes by these (bits).")
    private static void orbitFromOneToAll() {
        TwoTowns x = told(FOUR_EACH + "owes a b;owes b c;owes c d;");
        for (int who = 0; who < 4; who++) {
            due("to himself alone", x.orbit(0, who), 1 << who);
            due("to all", x.orbit(1, who), 15);
        }
        TwoTowns y = plain(1, 3);
        due("one", y.orbit(0, 0), 1);
        due("three", y.orbit(1, 2), 7);
    }

    // ---- promises 21 to 26: mend, elders, far, groups, loner, most ----

    @Sentence(promise = 21, says = "MEND for so many (1 to 4) ROUNDS")
    private static void mendRefused() {
        for (int bad : new int[] {0, 5, -1, 6, -2, 32, Integer.MIN_VALUE, Integer.MAX_VALUE}) {
            refused("mend(" + bad + ")", x -> x.mend(bad), -1);
            unchanged(() -> plain(2, 2), "mend(" + bad + ")", x -> x.mend(bad), -1);
        }
        for (int rounds = 1; rounds <= 4; rounds++) {
            int r = rounds;
            unchanged(TwoTowns::new, "of nobody", x -> x.mend(r), 0);
            unchanged(() -> plain(4, 4), "nothing to mend", x -> x.mend(r), 0);
        }
    }

    @Sentence(promise = 21, says = "MEND; NONE: others, not by 2.")
    private static void mendOfUnlikeMany() {
        for (int first = 0; first <= 4; first++) {
            for (int second = 0; second <= 4; second++) {
                TwoTowns x = plain(first, second);
                for (int rounds = 1; rounds <= 4; rounds++) {
                    boolean lasts = first == second || rounds <= Math.min(first, second);
                    due(first + " and " + second + " for " + rounds, x.mend(rounds), lasts ? 0 : -1);
                }
            }
        }
    }

    @Sentence(promise = 21, says = "the fewest PAINTS and LINKS of the first town (0 to 2)")
    private static void mendByOneTwoAndMore() {
        String[] changes = {"baker d;", "widow c;", "near c d;", "owes c d;", "owes d c;", "baker h;", "widow e;",
                "near e f;", "owes e f;", "owes h g;"};
        for (String one : changes) {
            Made by = () -> told(FOUR_EACH + one);
            unchanged(by, "by one: " + one, x -> x.mend(4), 1);
        }
        Made two = () -> told(FOUR_EACH + "baker a;widow h;near c d;near f g;near g h;");
        unchanged(two, "for one round", x -> x.mend(1), 2);
        due("two marks of one", told(FOUR_EACH + "baker a;widow a;").mend(1), 2);
        due("three marks", told(FOUR_EACH + "baker a;widow a;baker b;").mend(1), -1);
        due("two links", told(FOUR_EACH + "near a b;near b c;").mend(4), 2);
        due("three links", told(FOUR_EACH + "near a b;near b c;near c d;").mend(4), -1);
        due("three debts of the second", told(FOUR_EACH + "owes e f;owes f g;owes g h;").mend(4), -1);
        due("two debts of the second", told(FOUR_EACH + "owes e f;owes f e;").mend(4), 2);
    }

    @Sentence(promise = 21, says = "the fewest PAINTS and LINKS of the first town (0 to 2), from no pairs")
    private static void mendByEachOneAndEachTwo() {
        for (int many = 1; many <= 4; many++) {
            List<int[]> changes = changes(many);
            for (int i = 0; i < changes.size(); i++) {
                TwoTowns x = plain(many, many);
                change(x, 1, changes.get(i));
                due("one of the second of " + many, x.mend(4), 1);
                TwoTowns y = plain(many, many);
                change(y, 0, changes.get(i));
                due("one of the first of " + many, y.mend(4), 1);
                for (int j = 0; j < i; j++) {
                    change(y, 0, changes.get(j));
                    due("two of the first of " + many, y.mend(4), 2);
                    change(y, 0, changes.get(j));
                }
            }
        }
    }

    /** All paints and links of a town of so many: paints as who, what; links as who, other, what. */
    private static List<int[]> changes(int many) {
        List<int[]> all = new ArrayList<>();
        for (int who = 0; who < many; who++) {
            all.add(new int[] {who, 0});
            all.add(new int[] {who, 1});
            for (int other = 0; other < many; other++) {
                if (who < other) {
                    all.add(new int[] {who, other, 0});
                }
                if (who != other) {
                    all.add(new int[] {who, other, 1});
                }
            }
        }
        return all;
    }

    private static void change(TwoTowns x, int town, int[] by) {
        due("a change", by.length == 2 ? x.paint(town, by[0], by[1]) : x.link(town, by[0], by[1], by[2]), true);
    }

    @Sentence(promise = 21, says = "from no pairs, so that it is not FOUND OUT in so many")
    private static void mendWhateverWasPointedAt() {
        TwoTowns x = told(FOUR_EACH + "baker a;baker f;");
        x.point(0, 0, 0);
        due("found out", x.count(3), 1);
        due("nothing to mend", x.mend(4), 0);
        TwoTowns y = plain(1, 0);
        y.point(0, 0, -1);
        due("nobody was left", y.mend(1), -1);
    }

    @Sentence(promise = 22, says = "two rows of so many (0 to 12) and so many elders")
    private static void eldersRefused() {
        for (int bad : new int[] {-1, 13, 14, -2, 32, Integer.MIN_VALUE, Integer.MAX_VALUE}) {
            for (int other : new int[] {0, 1, 12}) {
                refused("elders(" + bad + ", " + other + ")", x -> x.elders(bad, other), -1);
                refused("elders(" + other + ", " + bad + ")", x -> x.elders(other, bad), -1);
            }
            refused("elders(" + bad + ", " + bad + ")", x -> x.elders(bad, bad), -1);
        }
    }

    @Sentence(promise = 22, says = "ELDERS; NONE: others, never.")
    private static void eldersFromNoneToTwelve() {
        TwoTowns x = new TwoTowns();
        for (int many = 0; many <= 12; many++) {
            for (int other = 0; other <= 12; other++) {
                int fewer = Math.min(many, other);
                int want = fewer == 0 ? 1 : fewer <= 2 ? 2 : fewer <= 6 ? 3 : 4;
                due("elders(" + many + ", " + other + ")", x.elders(many, other), many == other ? -1 : want);
            }
        }
    }

    @Sentence(promise = 23, says = "FAR; NONE: others, never.")
    private static void farRefused() {
        for (int bad : NO_TOWN) {
            refused("far(" + bad + ", 0, 1)", x -> x.far(bad, 0, 1), -1);
            refused("far(" + bad + ", 0, 0)", x -> x.far(bad, 0, 0), -1);
        }
        for (int bad : NO_FOLK) {
            refused("far(0, " + bad + ", 0)", x -> x.far(0, bad, 0), -1);
            refused("far(1, 0, " + bad + ")", x -> x.far(1, 0, bad), -1);
            refused("far(0, " + bad + ", " + bad + ")", x -> x.far(0, bad, bad), -1);
        }
        refused("far(0, -1, -1)", x -> x.far(0, -1, -1), -1);
        unchanged(() -> plain(1, 2), "one who is not there", x -> x.far(0, 1, 1), -1);
        unchanged(() -> plain(1, 0), "nobody there", x -> x.far(1, 0, 0), -1);
    }

    @Sentence(promise = 23, says = "FAR: by how many steps from one that is near to the next, at least, one is from"
            + " another one of that town.")
    private static void farFromNoneToNever() {
        TwoTowns x = told(FOUR_EACH + "near a b;near b c;near c d;owes e f;owes f e;");
        for (int one = 0; one < 4; one++) {
            for (int other = 0; other < 4; other++) {
                due("in a row", x.far(0, one, other), Math.abs(one - other));
                due("by debts alone", x.far(1, one, other), one == other ? 0 : -1);
            }
        }
        x.link(0, 0, 3, 0);
        due("a shorter way", x.far(0, 0, 3), 1);
        due("at least", x.far(0, 0, 2), 2);
    }

    @Sentence(promise = 24, says = "GROUPS, how many; NONE: others.")
    private static void groupsFromNoneToFour() {
        for (int bad : NO_TOWN) {
            refused("groups(" + bad + ")", x -> x.groups(bad), -1);
        }
        for (int many = 0; many <= 4; many++) {
            due("all alone", plain(many, 4 - many).groups(0), many);
            due("all alone", plain(many, 4 - many).groups(1), 4 - many);
        }
        TwoTowns x = told(FOUR_EACH + "near a d;near d b;near b c;near f h;owes e f;owes f g;");
        due("a row", x.groups(0), 1);
        due("debts don't hang together", x.groups(1), 3);
    }

    @Sentence(promise = 25, says = "LONER, as bits; NONE: others.")
    private static void lonerFromNoneToFour() {
        for (int bad : NO_TOWN) {
            refused("loner(" + bad + ")", x -> x.loner(bad), -1);
        }
        for (int many = 0; many <= 4; many++) {
            due("all alone", plain(many, 0).loner(0), (1 << many) - 1);
            due("all alone", plain(0, many).loner(1), (1 << many) - 1);
        }
    }

    @Sentence(promise = 25, says = "LONER: who is near nobody, owes nobody, is owed by nobody (bits).")
    private static void lonerByEachReason() {
        due("near", told(FOUR_EACH + "near c d;").loner(0), 3);
        due("owes and is owed", told(FOUR_EACH + "owes e h;").loner(1), 6);
        TwoTowns x = told(FOUR_EACH + "near a b;owes c d;");
        due("none", x.loner(0), 0);
        due("of the other town all", x.loner(1), 15);
        x.link(0, 2, 3, 1);
        due("two again", x.loner(0), 12);
    }

    @Sentence(promise = 26, says = "MOST; NONE: others, nobody is there.")
    private static void mostOfNobody() {
        for (int bad : NO_TOWN) {
            refused("most(" + bad + ")", x -> x.most(bad), -1);
        }
        due("nobody is there", plain(0, 1).most(0), -1);
        due("nobody is there", plain(1, 0).most(1), -1);
        due("one", plain(0, 1).most(1), 0);
    }

    @Sentence(promise = 26, says = "MOST: who is near to the most; of equal ones the first.")
    private static void mostFromFirstToLast() {
        due("near nobody: the first", plain(4, 4).most(0), 0);
        due("near all: the first", told(FOUR_EACH + "near e f;near e g;near e h;near f g;near f h;near g h;").most(1),
                0);
        due("the last", told(FOUR_EACH + "near h e;near h f;").most(1), 3);
        due("the first of two", told(FOUR_EACH + "near c d;").most(0), 2);
        due("debts are none", told(FOUR_EACH + "owes d a;owes d b;near b c;").most(0), 1);
    }

    // ---- promises 27 to 33: the claim and the lost town ----

    @Sentence(promise = 27, says = "Of the CLAIM, what 0: DEPTH, 1: NAMES, 2: LENGTH; NONE: others, there is none.")
    private static void measureRefused() {
        for (int bad : new int[] {-1, 3, 4, -2, 32, Integer.MIN_VALUE, Integer.MAX_VALUE}) {
            refused("measure(" + bad + ")", x -> x.measure(bad), -1);
        }
        for (int w = -1; w <= 3; w++) {
            int what = w;
            unchanged(TwoTowns::new, "there is none", x -> x.measure(what), -1);
            unchanged(() -> {
                TwoTowns x = busy();
                x.towns();
                return x;
            }, "none any more", x -> x.measure(what), -1);
        }
    }

    @Sentence(promise = 27, says = "its NAMES (how many different V there are behind some, all, two), its LENGTH (S's)")
    private static void measureLeastAndMost() {
        measured("some x baker x", 1, 1, 2);
        measured("two u near u u", 1, 1, 2);
        measured("some x all x two x some x all x two x some x same x x", 7, 1, 8);
        measured("some x all y two z some u some x some y some z near x u", 7, 4, 8);
        measured("and some x baker x and some y baker y and some z baker z some u baker u", 1, 4, 11);
        measured("not not not not not not some z widow z", 1, 1, 8);
        measured("all x " + sentence(59), 1, 1, 60);
        measured("and some x some y near x y some z baker z", 2, 3, 6);
        measured("and some z baker z some x some y near x y", 2, 3, 6);
        TwoTowns x = claimed("some x all y two z some u near x u");
        say(x, "some x baker x");
        due("nothing of the old one: depth", x.measure(0), 1);
        due("names", x.measure(1), 1);
        due("length", x.measure(2), 2);
    }

    private static void measured(String claim, int depth, int names, int length) {
        TwoTowns x = claimed(claim);
        due("depth of " + claim, x.measure(0), depth);
        due("names of " + claim, x.measure(1), names);
        due("length of " + claim, x.measure(2), length);
    }

    @Sentence(promise = 28, says = "SO in a town: 1, 0; NONE: others, there is no CLAIM.")
    private static void soRefused() {
        for (int bad : NO_TOWN) {
            refused("so(" + bad + ")", x -> x.so(bad), -1);
        }
        for (int t = -1; t <= 2; t++) {
            int town = t;
            unchanged(TwoTowns::new, "there is none", x -> x.so(town), -1);
            unchanged(() -> plain(4, 4), "there is none", x -> x.so(town), -1);
        }
    }

    @Sentence(promise = 28, says = "some V S (of somebody it is so), all V S (of everybody), two V S (of two at least)")
    private static void soOfNobodyOneTwoAndAll() {
        for (String v : new String[] {"x", "y", "z", "u"}) {
            for (int many = 0; many <= 4; many++) {
                for (int bakers = 0; bakers <= many; bakers++) {
                    TwoTowns x = plain(many, 0);
                    for (int who = many - bakers; who < many; who++) {
                        x.paint(0, who, 0);
                    }
                    String of = bakers + " of " + many;
                    say(x, "some " + v + " baker " + v);
                    due("some, " + of, x.so(0), number(bakers >= 1));
                    say(x, "all " + v + " baker " + v);
                    due("all, " + of, x.so(0), number(bakers == many));
                    due("all, of nobody", x.so(1), 1);
                    say(x, "two " + v + " baker " + v);
                    due("two, " + of, x.so(0), number(bakers >= 2));
                    due("two, of nobody", x.so(1), 0);
                }
            }
        }
    }

    @Sentence(promise = 28, says = "SO: whether it is so in a town.")
    private static void soGoesByHowTheyAre() {
        TwoTowns x = plain(2, 2);
        say(x, "some x some y owes x y");
        due("no debt", x.so(1), 0);
        x.link(1, 1, 0, 1);
        due("a debt", x.so(1), 1);
        due("not in the other", x.so(0), 0);
        x.undo();
        due("undone", x.so(1), 0);
        say(x, "some x near x x");
        x.link(0, 0, 1, 0);
        due("nobody is near himself", x.so(0), 0);
        say(x, "some u owes u u");
        due("nobody owes himself", x.so(0), 0);
        say(x, "all z same z z");
        due("everybody is himself", x.so(0), 1);
    }

    @Sentence(promise = 28, says = "V is x, y, z, u")
    private static void soByEachTwoNames() {
        String[] names = {"x", "y", "z", "u"};
        for (String v : names) {
            for (String w : names) {
                if (!v.equals(w)) {
                    soFromOneToAnother("some " + v + " and baker " + v + " some " + w + " and widow " + w + " owes "
                            + v + " " + w);
                }
            }
        }
        soFromOneToAnother("some z some y and and baker z widow y some x some u and owes x u and same x z same y u");
    }

    /** A claim that a baker owes a widow, of each one and each other one. */
    private static void soFromOneToAnother(String claim) {
        TwoTowns x = plain(4, 4);
        say(x, claim);
        for (int one = 0; one < 4; one++) {
            for (int other = 0; other < 4; other++) {
                if (one != other) {
                    x.paint(0, one, 0);
                    x.paint(0, other, 1);
                    x.link(0, other, one, 1);
                    due("the other way", x.so(0), 0);
                    x.link(0, one, other, 1);
                    due(one + " owes " + other, x.so(0), 1);
                    for (int i = 0; i < 4; i++) {
                        x.undo();
                    }
                }
            }
        }
        due("nobody any more", x.so(0), 0);
    }

    @Sentence(promise = 28, says = "an S is 60 S's long at most")
    private static void soOfTheLongestClaim() {
        for (String v : new String[] {"x", "y", "z", "u"}) {
            TwoTowns x = plain(4, 3);
            // 15 times 3 parts, joined by 14, and the first one.
            say(x, ("all x " + joined("and", "or baker x widow x", 15)).replace("x", v));
            due("60", x.measure(2), 60);
            due("nobody is either", x.so(0), 0);
            for (int who = 0; who < 4; who++) {
                due("not all yet", x.so(0), 0);
                x.paint(0, who, who % 2);
            }
            due("each is one of them", x.so(0), 1);
            due("not in the other", x.so(1), 0);
            due("parts", x.parts(), true);
            due("models", x.models(), 12);
        }
    }

    /** So many of one text, joined by a word ahead of each two, few within one another. */
    private static String joined(String word, String text, int many) {
        if (many <= 1) {
            return text;
        }
        return word + " " + joined(word, text, many / 2) + " " + joined(word, text, many - many / 2);
    }

    @Sentence(promise = 29, says = "PARTS: true; false: it does not, there is no CLAIM.")
    private static void partsOrNot() {
        unchanged(TwoTowns::new, "there is none", x -> number(x.parts()), 0);
        unchanged(() -> plain(1, 4), "there is none", x -> number(x.parts()), 0);
        TwoTowns x = told(FOUR_EACH + "baker a;");
        say(x, "some x baker x");
        due("so in the first alone", x.parts(), true);
        say(x, "all x not baker x");
        due("so in the second alone", x.parts(), true);
        say(x, "some x same x x");
        due("so in both", x.parts(), false);
        say(x, "all x baker x");
        due("so in neither", x.parts(), false);
        x.towns();
        due("no claim any more", x.parts(), false);
    }

    @Sentence(promise = 30, says = "MODELS, how many; NONE: there is no CLAIM.")
    private static void modelsOfNoClaim() {
        unchanged(TwoTowns::new, "there is none", TwoTowns::models, -1);
        unchanged(() -> {
            TwoTowns x = busy();
            x.towns();
            return x;
        }, "none any more", TwoTowns::models, -1);
    }

    @Sentence(promise = 30, says = "of how many of the 75 towns of 0 to 3 FOLK, in which nobody is a widow or owes")
    private static void modelsFromNoneToAll() {
        modelsAre("some x widow x", 0);
        modelsAre("all x not widow x", 75);
        modelsAre("some x some y owes x y", 0);
        modelsAre("all x all y not owes x y", 75);
        modelsAre("not some x same x x", 1);
        modelsAre("and some x same x x not two x same x x", 2);
        modelsAre("two x same x x", 72);
        modelsAre("some x some y some z and not same x y and not same y z not same x z", 64);
        // Somebody else than any three: of those of 1 to 3 there is none.
        modelsAre("all x all y all z some u not or same x u or same y u same z u", 1);
        modelsAre("some x near x x", 0);
        modelsAre("all x all y or not near x y near y x", 75);
        modelsAre("all x all y or same x y near x y", 1 + 2 + 4 + 8);
        modelsAre("all x baker x", 1 + 1 + 2 + 8);
        modelsAre("two x baker x", 2 + 4 * 8);
        TwoTowns x = busy();
        due("whatever the towns are", x.models(), 63);
        x.paint(0, 0, 0);
        due("whatever the towns are", x.models(), 63);
    }

    @Sentence(promise = 30, says = "(all ways in which these, by numbers, are bakers, and near)")
    private static void modelsBehindOtherQuestions() {
        TwoTowns x = told(FOUR_EACH + "baker a;widow b;near a b;owes a b;owes b a;owes c d;owes d a;widow c;");
        String[] claims = {"some x some y owes x y", "some x widow x", "some x baker x", "some x some y near x y"};
        int[] want = {0, 0, 63, 60};
        for (int i = 0; i < claims.length; i++) {
            say(x, claims[i]);
            due("mend", x.mend(1), -1);
            due("models of " + claims[i], x.models(), want[i]);
            due("mend", x.mend(4), -1);
            due("so", x.so(0), 1);
            due("models again", x.models(), want[i]);
        }
    }

    private static void modelsAre(String claim, int want) {
        due("models() of " + claim, claimed(claim).models(), want);
    }

    @Sentence(promise = 31, says = "REPORTED: true; false: there is no CLAIM, 4 there are.")
    private static void reportRefused() {
        for (int i = 0; i < 2; i++) {
            boolean so = i == 1;
            unchanged(TwoTowns::new, "there is none", x -> number(x.report(so)), 0);
            unchanged(() -> plain(4, 4), "there is none", x -> number(x.report(so)), 0);
            unchanged(() -> {
                TwoTowns x = busy();
                for (int many = 2; many <= 4; many++) {
                    due("report " + many, x.report(true), true);
                    due("count(9)", x.count(9), many);
                }
                return x;
            }, "4 there are", x -> number(x.report(so)), 0);
        }
    }

    @Sentence(promise = 31, says = "that the CLAIM is so, or is not, in one of these 75, a lost one; 4 at most")
    private static void reportUpToFour() {
        TwoTowns x = claimed("some x baker x");
        due("first", x.report(true), true);
        due("the same again counts", x.report(true), true);
        due("two", x.count(9), 2);
        due("the same towns", x.lost(0), 63);
        due("the contrary", x.report(false), true);
        due("none is left", x.lost(0), 0);
        due("a fourth", x.report(true), true);
        due("no fifth", x.report(false), false);
        due("four", x.count(9), 4);
        say(x, "all x baker x");
        due("nor of another claim", x.report(true), false);
        due("four", x.count(9), 4);
        feed(x, "");
        x.towns();
        due("new towns: none", x.count(9), 0);
        say(x, "some x baker x");
        due("and one again", x.report(false), true);
        due("without bakers", x.lost(0), 12);
    }

    @Sentence(promise = 32, says = "LOST, what 0: how many, 1: the fewest FOLK, 2: the most; NONE: others, none"
            + " (but 0).")
    private static void lostRefused() {
        for (int bad : new int[] {-1, 3, 4, -2, 32, Integer.MIN_VALUE, Integer.MAX_VALUE}) {
            refused("lost(" + bad + ")", x -> x.lost(bad), -1);
        }
        TwoTowns x = claimed("some x widow x");
        lostIs(x, 75, 0, 3);
        x.report(true);
        lostIs(x, 0, -1, -1);
        lostIs(new TwoTowns(), 75, 0, 3);
    }

    @Sentence(promise = 32, says = "LOST: how many there are by which all REPORTED is so; the fewest FOLK, the most.")
    private static void lostOfEachSize() {
        String[] atLeast = {"some x same x x", "two x same x x",
                "some x some y some z and not same x y and not same y z not same x z"};
        int[] many = {1, 2, 8, 64};
        for (int fewest = 0; fewest <= 3; fewest++) {
            for (int most = fewest; most <= 3; most++) {
                TwoTowns x = new TwoTowns();
                int want = 0;
                for (int size = fewest; size <= most; size++) {
                    want += many[size];
                }
                if (fewest > 0) {
                    say(x, atLeast[fewest - 1]);
                    x.report(true);
                }
                if (most < 3) {
                    say(x, atLeast[most]);
                    x.report(false);
                }
                lostIs(x, want, fewest, most);
            }
        }
        TwoTowns x = claimed("two x same x x");
        x.report(true);
        say(x, "some x some y some z and not same x y and not same y z not same x z");
        x.report(true);
        say(x, "some x baker x");
        x.report(false);
        lostIs(x, 8, 3, 3);
        say(x, "some x some y near x y");
        x.report(false);
        lostIs(x, 1, 3, 3);
    }

    private static void lostIs(TwoTowns x, int many, int fewest, int most) {
        due("lost(0)", x.lost(0), many);
        due("lost(1)", x.lost(1), fewest);
        due("lost(2)", x.lost(2), most);
    }

    @Sentence(promise = 33, says = "SURE: 1, 0; NONE: there is no CLAIM, no such town, one can't tell.")
    private static void sureOrNot() {
        unchanged(TwoTowns::new, "there is none", TwoTowns::sure, -1);
        unchanged(() -> plain(4, 4), "there is none", TwoTowns::sure, -1);
        unchanged(() -> {
            TwoTowns x = claimed("some x widow x");
            x.report(true);
            return x;
        }, "no such town", TwoTowns::sure, -1);
        unchanged(() -> {
            TwoTowns x = claimed("some x widow x");
            x.report(true);
            say(x, "all x not widow x");
            return x;
        }, "no such town", TwoTowns::sure, -1);
        unchanged(() -> claimed("some x baker x"), "one can't tell", TwoTowns::sure, -1);
        unchanged(() -> claimed("some x widow x"), "in none", TwoTowns::sure, 0);
        unchanged(() -> claimed("all x not widow x"), "in all", TwoTowns::sure, 1);
    }

    @Sentence(promise = 33, says = "SURE: whether the CLAIM is so in all of these (1), in none (0), or one can't tell.")
    private static void sureButForOneTown() {
        due("in one of 75 alone", claimed("not some x same x x").sure(), -1);
        due("in all but one", claimed("some x same x x").sure(), -1);
        String three = "some x some y some z and not same x y and not same y z not same x z";
        due("in those of three alone", claimed(three).sure(), -1);
        due("in those of fewer alone", claimed("not " + three).sure(), -1);
        TwoTowns x = claimed(three);
        x.report(true);
        due("in all that are left", x.sure(), 1);
        say(x, "not some x same x x");
        due("in none that is left", x.sure(), 0);
        TwoTowns y = claimed(three);
        y.report(false);
        due("in none that is left", y.sure(), 0);
        say(y, "not " + three);
        due("in all that are left", y.sure(), 1);
    }

    // ---- promises 34 to 37 ----

    @Sentence(promise = 34, says = "NoSuchElementException: others, none such.")
    private static void restsRefused() {
        for (int bad : new int[] {-1, 10, 11, -2, 100, Integer.MIN_VALUE, Integer.MAX_VALUE}) {
            for (int what = -1; what <= 1; what++) {
                due("both " + bad, rest(bad, 2, 3, what), THROWS);
                due("loses " + bad, rest(5, bad, 3, what), THROWS);
                due("gets " + bad, rest(5, 2, bad, what), THROWS);
            }
        }
        for (int what : FAR_OFF) {
            due("what " + what, rest(4, 0, 4, what), THROWS);
        }
        due("behind the last of four", rest(4, 0, 4, 4), THROWS);
        due("behind the last of two", rest(5, 2, 3, 2), THROWS);
        refused("a refused one", x -> {
            try {
                return x.rests(10, 0, 0, -1);
            } catch (NoSuchElementException e) {
                return THROWS;
            }
        }, THROWS);
    }

    @Sentence(promise = 34, says = "what NONE: how many; i: the i-th as 2 * the first one's choice + the other"
            + " one's (1 points; the least first).")
    private static void restsFromNoneToNine() {
        for (int both = 0; both <= 9; both++) {
            for (int loses = 0; loses <= 9; loses++) {
                for (int gets = 0; gets <= 9; gets++) {
                    int many = 0;
                    for (int choices = 0; choices < 4; choices++) {
                        if (atRest(choices / 2, choices % 2, both, loses, gets)) {
                            due("the " + many + "-th", rest(both, loses, gets, many), choices);
                            many++;
                        }
                    }
                    due("how many", rest(both, loses, gets, -1), many);
                    due("none such", rest(both, loses, gets, many), THROWS);
                }
            }
        }
    }

    @Sentence(promise = 34, says = "RESTS: by which neither would get more by the other.")
    private static void restsWhereNothingIsMore() {
        due("all nothing: all four", rest(0, 0, 0, -1), 4);
        due("equal is no more", rest(9, 9, 9, -1), 2);
        due("less by one", rest(8, 9, 9, -1), 1);
        due("both wait", rest(0, 9, 9, 0), 0);
        due("one points, nothing is lost", rest(0, 0, 9, -1), 3);
        due("one points, one is lost", rest(0, 1, 9, -1), 1);
    }

    private static boolean atRest(int first, int other, int both, int loses, int gets) {
        return got(first, other, both, loses, gets) >= got(1 - first, other, both, loses, gets)
                && got(other, first, both, loses, gets) >= got(1 - other, first, both, loses, gets);
    }

    private static int got(int own, int others, int both, int loses, int gets) {
        return own == 1 ? others == 1 ? both : -loses : others == 1 ? gets : 0;
    }

    @Sentence(promise = 35, says = "PLAYS by a SEED (0 to 9999), what 0: FOUND OUT, 1: ROUNDS; NONE: others.")
    private static void playsRefused() {
        for (int bad : new int[] {-1, 10000, 10001, -2, Integer.MIN_VALUE, Integer.MAX_VALUE}) {
            refused("seed " + bad, x -> x.plays(bad, 1, 0), -1);
            refused("seed " + bad, x -> x.plays(bad, 99, 1), -1);
        }
        for (int bad : new int[] {-1, 2, 3, -2, 32, Integer.MIN_VALUE, Integer.MAX_VALUE}) {
            refused("what " + bad, x -> x.plays(0, 1, bad), -1);
        }
        for (int w = 0; w < 2; w++) {
            int what = w;
            for (int bad : new int[] {0, 100, 101, -1, Integer.MIN_VALUE, Integer.MAX_VALUE}) {
                refused("many " + bad, x -> x.plays(0, bad, what), -1);
            }
        }
        due("the least of all", plain(1, 0).plays(0, 1, 1), 1);
        due("the most of all", plain(1, 0).plays(9999, 99, 1), 99);
        for (int many = 1; many <= 99; many++) {
            due("many", plain(0, 1).plays(0, many, 0), many);
        }
    }

    @Sentence(promise = 35, says = "each from how it is now till it is FOUND OUT or all are in pairs")
    private static void playsTillTheEnd() {
        for (int first = 0; first <= 4; first++) {
            for (int second = 0; second <= 4; second++) {
                TwoTowns x = plain(first, second);
                int fewer = Math.min(first, second);
                for (int pairs = 0; pairs <= fewer; pairs++) {
                    boolean alike = first == second;
                    due("found out", x.plays(7, 5, 0), alike ? 0 : 5);
                    due("rounds", x.plays(7, 5, 1), 5 * (fewer - pairs + (alike ? 0 : 1)));
                    x.point(1, pairs, pairs);
                }
            }
        }
        TwoTowns y = plain(1, 0);
        y.point(0, 0, -1);
        due("found out already", y.plays(7, 5, 0), 5);
        due("no round", y.plays(7, 5, 1), 0);
        unchanged(BoundaryTests::busyWithSigns, "nothing is done by it", x -> Math.min(0, x.plays(7, 99, 1)), 0);
    }

    @Sentence(promise = 35, says = "A DRAW below m: g becomes (g * 1103515245 + 12345) modulo 2147483648 (g is the"
            + " SEED at first);"
            + " it is g / 65536, cut, modulo m.")
    private static void playsByEachSeed() {
        for (int seed : new int[] {0, 1, 2, 4999, 9998, 9999}) {
            TwoTowns x = told("folk a of 1;folk b of 1;folk c of 1;folk e of 2;folk f of 2;folk g of 2;baker"
                    + " b;widow g;near a c;");
            for (int many : new int[] {1, 2, 50, 99}) {
                int[] want = played(seed, many);
                due("found out by " + seed, x.plays(seed, many, 0), want[0]);
                due("rounds by " + seed, x.plays(seed, many, 1), want[1]);
            }
        }
    }

    /** Of these towns of three: b is a baker, g is a widow, a and c are near. */
    private static int[] played(int seed, int many) {
        BigInteger[] g = {BigInteger.valueOf(seed)};
        int[] sums = new int[2];
        for (int i = 0; i < many; i++) {
            List<Integer> first = new ArrayList<>(List.of(0, 1, 2));
            List<Integer> second = new ArrayList<>(List.of(0, 1, 2));
            boolean near = false;
            boolean found = false;
            while (!found && !first.isEmpty()) {
                sums[1]++;
                int one = draw(g, first.size() + second.size());
                int who;
                int back;
                if (one < first.size()) {
                    who = first.remove(one);
                    back = second.remove(draw(g, second.size()));
                } else {
                    back = second.remove(one - first.size());
                    who = first.remove(draw(g, first.size()));
                }
                found = who == 1 || back == 2 || near && who != 1;
                near = near || who != 1;
            }
            sums[0] += number(found);
        }
        return sums;
    }

    @Sentence(promise = 35, says = "then, if somebody is left in the other town, a DRAW below these: who is pointed"
            + " back at")
    private static void playsWhereNobodyIsLeft() {
        int[][][] towns = {{{0, 0, 1}, {0}}, {{0}, {0, 1, 0, 1}}, {{0, 1, 0, 1}, {1, 0, 0}}, {{}, {1, 0}}, {{0, 0, 0},
                {0, 0}}};
        for (int[][] bakers : towns) {
            TwoTowns x = plain(bakers[0].length, bakers[1].length);
            for (int town = 0; town < 2; town++) {
                for (int who = 0; who < bakers[town].length; who++) {
                    if (bakers[town][who] == 1) {
                        x.paint(town, who, 0);
                    }
                }
            }
            for (int seed : new int[] {0, 77, 9999}) {
                int[] want = playedByMarks(seed, 99, bakers);
                due("found out by " + seed, x.plays(seed, 99, 0), want[0]);
                due("rounds by " + seed, x.plays(seed, 99, 1), want[1]);
            }
        }
    }

    /** Of two towns of bakers (1) and others (0) without links. */
    private static int[] playedByMarks(int seed, int many, int[][] bakers) {
        BigInteger[] g = {BigInteger.valueOf(seed)};
        int[] sums = new int[2];
        for (int i = 0; i < many; i++) {
            List<List<Integer>> left = List.of(new ArrayList<>(), new ArrayList<>());
            for (int town = 0; town < 2; town++) {
                for (int mark : bakers[town]) {
                    left.get(town).add(mark);
                }
            }
            boolean found = false;
            while (!found && !(left.get(0).isEmpty() && left.get(1).isEmpty())) {
                sums[1]++;
                int one = draw(g, left.get(0).size() + left.get(1).size());
                int town = one < left.get(0).size() ? 0 : 1;
                int mark = left.get(town).remove(town == 0 ? one : one - left.get(0).size());
                List<Integer> others = left.get(1 - town);
                found = others.isEmpty() || others.remove(draw(g, others.size())) != mark;
            }
            sums[0] += number(found);
        }
        return sums;
    }

    private static int draw(BigInteger[] g, int below) {
        BigInteger turned = g[0].multiply(BigInteger.valueOf(1103515245)).add(BigInteger.valueOf(12345));
        g[0] = turned.mod(BigInteger.valueOf(2147483648L));
        return g[0].divide(BigInteger.valueOf(65536)).mod(BigInteger.valueOf(below)).intValue();
    }

    @Sentence(promise = 36, says = "A MARK is laid (back: gone back to): true; false: none such, nothing is on it"
            + " (back).")
    private static void marksRefused() {
        for (int bad : new int[] {-1, 4, 5, -2, 32, 33, Integer.MIN_VALUE, Integer.MAX_VALUE}) {
            refused("mark(" + bad + ", false)", x -> number(x.mark(bad, false)), 0);
            refused("mark(" + bad + ", true)", x -> number(x.mark(bad, true)), 0);
        }
        for (int mark : new int[] {0, 2, 3}) {
            refused("nothing is on " + mark, x -> number(x.mark(mark, true)), 0);
        }
        for (int mark = 0; mark < 4; mark++) {
            int one = mark;
            unchanged(TwoTowns::new, "nothing is on it", x -> number(x.mark(one, true)), 0);
            unchanged(BoundaryTests::busyWithSigns, "laid", x -> number(x.mark(one, false)), 1);
        }
    }

    @Sentence(promise = 36, says = "MARKS 0 to 3 hold all that UNDO brings back, what is REPORTED")
    private static void fourMarksHoldAll() {
        TwoTowns x = told(FOUR_EACH);
        say(x, "some x baker x");
        String[] shots = new String[4];
        for (int mark = 0; mark < 4; mark++) {
            x.paint(0, mark, 0);
            x.paint(1, mark, 0);
            x.link(1, mark, (mark + 1) % 4, 1);
            x.link(0, mark, (mark + 1) % 4, 1);
            due("a pair", x.point(0, mark, mark), 1);
            x.report(true);
            shots[mark] = held(x);
            due("laid", x.mark(mark, false), true);
        }
        for (int mark : new int[] {2, 0, 3, 1, 1, 2}) {
            due("gone back to", x.mark(mark, true), true);
            same("mark " + mark, held(x), shots[mark]);
            due("nothing can be undone", x.undo(), false);
            x.paint(1, 0, 1);
        }
    }

    private static String held(TwoTowns x) {
        StringBuilder b = new StringBuilder();
        for (int what = 2; what < 10; what++) {
            b.append(x.count(what)).append(' ');
        }
        for (int i = 0; i < 8; i++) {
            b.append(x.folk(i / 4, i % 4, 2)).append('/').append(x.folk(i / 4, i % 4, 3)).append('/');
            b.append(x.folk(i / 4, i % 4, 5)).append(' ');
        }
        return b.append(x.lost(0)).toString();
    }

    @Sentence(promise = 36, says = "(nothing can be undone when one is gone back to)")
    private static void nothingToUndoBehindAMark() {
        TwoTowns x = plain(4, 4);
        for (int i = 0; i < 16; i++) {
            x.paint(0, i % 4, 0);
        }
        x.mark(0, false);
        due("laying leaves it", x.count(10), 16);
        due("undo", x.undo(), true);
        x.mark(0, true);
        due("going back takes it", x.count(10), 0);
        due("undo", x.undo(), false);
        x.paint(0, 0, 1);
        due("what comes then can", x.undo(), true);
        due("no more", x.undo(), false);
    }

    @Sentence(promise = 36, says = "hold all that UNDO brings back")
    private static void marksHoldThatNobodyWasLeft() {
        TwoTowns x = plain(1, 0);
        x.mark(0, false);
        x.point(0, 0, -1);
        x.mark(3, false);
        x.mark(0, true);
        due("not found out", x.count(3), 0);
        due("one points", x.point(0, 0, -1), 0);
        x.mark(0, true);
        x.mark(3, true);
        due("found out", x.count(3), 1);
        due("nobody points", x.point(0, 0, -1), -1);
        due("it can't be undone", x.undo(), false);
        x.mark(3, false);
        x.mark(0, true);
        x.mark(3, true);
        due("laid anew", x.count(3), 1);
    }

    @Sentence(promise = 36, says = "what is REPORTED (nothing can be undone when one is gone back to)")
    private static void marksHoldWhatIsReported() {
        TwoTowns x = claimed("some x baker x");
        x.mark(0, false);
        for (int i = 0; i < 4; i++) {
            x.report(true);
        }
        x.mark(1, false);
        due("full", x.report(true), false);
        x.mark(0, true);
        due("none", x.count(9), 0);
        due("75", x.lost(0), 75);
        due("one more", x.report(false), true);
        due("12", x.lost(0), 12);
        x.mark(1, true);
        due("four", x.count(9), 4);
        due("63", x.lost(0), 63);
        due("full", x.report(true), false);
        say(x, "all x baker x");
        feed(x, "ab");
        x.mark(0, true);
        due("the claim is not held", x.models(), 12);
        due("the tape is not held", x.count(11), 2);
    }

    @Sentence(promise = 37, says = "NONE for another what.")
    private static void countRefused() {
        for (int bad : new int[] {-1, 12, 13, -2, 32, 43, Integer.MIN_VALUE, Integer.MAX_VALUE}) {
            refused("count(" + bad + ")", x -> x.count(bad), -1);
        }
    }

    @Sentence(promise = 37, says = "What 0, 1: FOLK of each town, 2: pairs, 3: 1 FOUND OUT, 4, 5: bakers of each,"
            + " as bits,"
            + " 6, 7: widows of each, as bits, 8: 1 there is a CLAIM, 9: REPORTED, 10: what can be undone, 11:"
                    + " signs on the TAPE.")
    private static void countFromNoneToMost() {
        TwoTowns x = new TwoTowns();
        for (int what = 0; what < 12; what++) {
            due("of a new one: " + what, x.count(what), 0);
        }
        TwoTowns y = plain(4, 4);
        say(y, "some x baker x");
        for (int i = 0; i < 16; i++) {
            y.paint(i / 4 % 2, i % 4, i / 8);
        }
        for (int i = 0; i < 4; i++) {
            y.point(0, i, i);
            y.report(true);
        }
        feed(y, "?".repeat(1000));
        int[] most = {4, 4, 4, 0, 15, 15, 15, 15, 1, 4, 16, 1000};
        for (int what = 0; what < 12; what++) {
            due("the most: " + what, y.count(what), most[what]);
        }
        y.paint(0, 0, 0);
        due("found out", y.count(3), 1);
        for (int i = 0; i < 9; i++) {
            unchanged(BoundaryTests::busyWithSigns, "counting", z -> z.count(11), 3);
        }
    }

    /** No question changes anything. */
    @Sentence(promise = 37, says = "Nothing is promised beyond the answers and state changes described above")
    private static void questionsChangeNothing() {
        TwoTowns x = busyWithSigns();
        String before = shown(x);
        for (int town = 0; town < 2; town++) {
            for (int who = 0; who < 4; who++) {
                x.reply(town, who);
                x.keeps(town, who, 4);
                x.orbit(town, who);
                x.far(town, who, 3);
            }
            x.sided(town);
            x.selves(town);
            x.groups(town);
            x.loner(town);
            x.most(town);
            x.so(town);
        }
        for (int i = 0; i < 5; i++) {
            x.hands(i);
            x.colours(i);
            x.mend(i);
        }
        x.left();
        x.hint();
        x.rounds();
        x.ways();
        x.elders(3, 4);
        x.parts();
        x.sure();
        x.plays(1, 99, 0);
        same("behind all questions", shown(x), before);
        due("the mark", x.mark(1, true), true);
        due("as it was laid", x.count(6), 0);
    }
}
