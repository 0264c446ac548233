import java.util.ArrayDeque;
import java.util.ArrayList;
import java.util.Arrays;
import java.util.HashMap;
import java.util.HashSet;
import java.util.List;
import java.util.Map;
import java.util.NoSuchElementException;
import java.util.Random;
import java.util.Set;

/**
 * Random runs of calls, each answer compared with that of a slow model that follows the document word by word
 * (whole copies for undo and marks, no memory in the games, hands as a row of hands, sentences as trees).
 */
public final class ReferenceTests {
    private static int wrong = 0;
    private static int calls = 0;

    public static void main(String[] args) {
        for (int seed = 0; seed < 700; seed++) {
            run(seed);
        }
        for (int seed = 0; seed < 500; seed++) {
            sweep(seed);
        }
        everyRow();
        System.out.println(calls + " calls compared, " + wrong + " wrong");
        if (wrong != 0) {
            System.exit(1);
        }
    }

    // ---- the model ----

    static final class Folks {
        int n = 0;
        boolean[] baker = new boolean[4];
        boolean[] widow = new boolean[4];
        boolean[][] near = new boolean[4][4];
        boolean[][] owes = new boolean[4][4];

        Folks copy() {
            Folks f = new Folks();
            f.n = n;
            f.baker = baker.clone();
            f.widow = widow.clone();
            for (int i = 0; i < 4; i++) {
                f.near[i] = near[i].clone();
                f.owes[i] = owes[i].clone();
            }
            return f;
        }
    }

    static final class Snapshot {
        Folks[] town = {new Folks(), new Folks()};
        List<int[]> pairs = new ArrayList<>();
        boolean nobody = false;
        List<Object[]> reports = new ArrayList<>();

        Snapshot copy() {
            Snapshot s = new Snapshot();
            s.town[0] = town[0].copy();
            s.town[1] = town[1].copy();
            s.pairs.addAll(pairs);
            s.nobody = nobody;
            s.reports.addAll(reports);
            return s;
        }
    }

    static final class Node {
        String verb;
        String v = "";
        String w = "";
        List<Node> kids = new ArrayList<>();
    }

    static final class Fault extends RuntimeException {
        private static final long serialVersionUID = 1L;
        final int code;

        Fault(int kind, int place) {
            code = kind + 16 * place;
        }
    }

    static final class Model {
        static final int INF = 1 << 20;
        static final Set<String> RESERVED = new HashSet<>(Arrays.asList(
                "folk of baker widow near owes not and or some all two same x y z u".split(" ")));
        StringBuilder tape = new StringBuilder();
        Snapshot s = new Snapshot();
        ArrayDeque<Snapshot> past = new ArrayDeque<>();
        Snapshot[] marks = new Snapshot[4];
        Node claim = null;

        // tokens
        List<String> token = new ArrayList<>();
        List<Integer> place = new ArrayList<>();
        int at;

        int feed(long... words) {
            for (long word : words) {
                for (int i = 7; i >= 0; i--) {
                    int c = (int) (word >> (8 * i)) & 0xff;
                    if ((c == 10 || c >= 32 && c <= 126) && tape.length() < 1000) {
                        tape.append((char) c);
                    }
                }
            }
            return tape.length();
        }

        void cut() {
            token.clear();
            place.clear();
            at = 0;
            String t = tape.toString();
            java.util.regex.Matcher m = java.util.regex.Pattern.compile("[a-z]+|[0-9]+|[^ \n]").matcher(t);
            while (m.find()) {
                token.add(m.group());
                place.add(m.start());
            }
            token.add("");
            place.add(t.length());
            tape.setLength(0);
        }

        boolean isWord(String t) {
            return t.matches("[a-z]{1,8}");
        }

        boolean isName(String t) {
            return isWord(t) && !RESERVED.contains(t);
        }

        int towns() {
            cut();
            Snapshot made = new Snapshot();
            Map<String, int[]> who = new HashMap<>();
            try {
                while (!token.get(at).isEmpty()) {
                    String verb = token.get(at);
                    need(List.of("folk", "baker", "widow", "near", "owes").contains(verb), 1);
                    at++;
                    if (verb.equals("folk")) {
                        String name = token.get(at);
                        need(isName(name), 1);
                        need(!who.containsKey(name), 3);
                        at++;
                        need(token.get(at).equals("of"), 1);
                        at++;
                        need(token.get(at).matches("[0-9]{1,4}"), 1);
                        int number = Integer.parseInt(token.get(at));
                        need(number == 1 || number == 2, 4);
                        Folks f = made.town[number - 1];
                        need(f.n < 4, 5);
                        who.put(name, new int[] {number - 1, f.n});
                        f.n++;
                        at++;
                    } else {
                        need(isName(token.get(at)), 1);
                        int[] one = who.get(token.get(at));
                        need(one != null, 2);
                        Folks f = made.town[one[0]];
                        if (verb.equals("baker") || verb.equals("widow")) {
                            boolean[] row = verb.equals("baker") ? f.baker : f.widow;
                            need(!row[one[1]], 3);
                            row[one[1]] = true;
                            at++;
                        } else {
                            at++;
                            need(isName(token.get(at)), 1);
                            int[] other = who.get(token.get(at));
                            need(other != null, 2);
                            need(other[0] == one[0] && other[1] != one[1], 3);
                            boolean[][] table = verb.equals("near") ? f.near : f.owes;
                            need(!table[one[1]][other[1]], 3);
                            table[one[1]][other[1]] = true;
                            if (verb.equals("near")) {
                                table[other[1]][one[1]] = true;
                            }
                            at++;
                        }
                    }
                    need(token.get(at).equals(";"), 1);
                    at++;
                }
            } catch (Fault f) {
                return f.code;
            }
            s = made;
            claim = null;
            past.clear();
            marks = new Snapshot[4];
            return 0;
        }

        void need(boolean good, int kind) {
            if (!good) {
                throw new Fault(kind, place.get(at));
            }
        }

        int read;

        int claim() {
            cut();
            read = 0;
            try {
                Node node = sentence(0, List.of());
                need(token.get(at).isEmpty(), 1);
                claim = node;
                return 0;
            } catch (Fault f) {
                return f.code;
            }
        }

        Node sentence(int within, List<String> bound) {
            String verb = token.get(at);
            need(List.of("not", "and", "or", "some", "all", "two", "baker", "widow", "near", "owes", "same")
                    .contains(verb), 1);
            need(within < 8 && read < 60, 5);
            read++;
            at++;
            Node node = new Node();
            node.verb = verb;
            switch (verb) {
                case "not":
                    node.kids.add(sentence(within + 1, bound));
                    break;
                case "and":
                case "or":
                    node.kids.add(sentence(within + 1, bound));
                    node.kids.add(sentence(within + 1, bound));
                    break;
                case "some":
                case "all":
                case "two":
                    need(token.get(at).matches("[xyzu]"), 1);
                    node.v = token.get(at);
                    at++;
                    List<String> more = new ArrayList<>(bound);
                    more.add(node.v);
                    node.kids.add(sentence(within + 1, more));
                    break;
                default:
                    node.v = variable(bound);
                    if (!verb.equals("baker") && !verb.equals("widow")) {
                        node.w = variable(bound);
                    }
            }
            return node;
        }

        String variable(List<String> bound) {
            String v = token.get(at);
            need(v.matches("[xyzu]"), 1);
            need(bound.contains(v), 2);
            at++;
            return v;
        }

        boolean truth(Node node, Folks f, Map<String, Integer> who) {
            switch (node.verb) {
                case "not": return !truth(node.kids.get(0), f, who);
                case "and": return truth(node.kids.get(0), f, who) && truth(node.kids.get(1), f, who);
                case "or": return truth(node.kids.get(0), f, who) || truth(node.kids.get(1), f, who);
                case "baker": return f.baker[who.get(node.v)];
                case "widow": return f.widow[who.get(node.v)];
                case "near": return f.near[who.get(node.v)][who.get(node.w)];
                case "owes": return f.owes[who.get(node.v)][who.get(node.w)];
                case "same": return who.get(node.v).equals(who.get(node.w));
                default:
            }
            int many = 0;
            for (int i = 0; i < f.n; i++) {
                Map<String, Integer> inner = new HashMap<>(who);
                inner.put(node.v, i);
                if (truth(node.kids.get(0), f, inner)) {
                    many++;
                }
            }
            return node.verb.equals("some") ? many >= 1 : node.verb.equals("two") ? many >= 2 : many == f.n;
        }

        boolean truth(Node node, Folks f) {
            return truth(node, f, new HashMap<>());
        }

        boolean isOne(int town, int who) {
            return (town == 0 || town == 1) && who >= 0 && who < s.town[town].n;
        }

        static int bits(boolean[] row) {
            int b = 0;
            for (int i = 0; i < row.length; i++) {
                b |= row[i] ? 1 << i : 0;
            }
            return b;
        }

        int folk(int town, int who, int what) {
            if (!isOne(town, who) || what < 0 || what > 5) {
                return -2;
            }
            Folks f = s.town[town];
            switch (what) {
                case 0: return f.baker[who] ? 1 : 0;
                case 1: return f.widow[who] ? 1 : 0;
                case 2: return bits(f.near[who]);
                case 3: return bits(f.owes[who]);
                case 4: {
                    boolean[] row = new boolean[4];
                    for (int i = 0; i < 4; i++) {
                        row[i] = f.owes[i][who];
                    }
                    return bits(row);
                }
                default: return partner(s.pairs, town, who);
            }
        }

        static int partner(List<int[]> pairs, int town, int who) {
            for (int[] p : pairs) {
                if (p[town] == who) {
                    return p[1 - town];
                }
            }
            return -1;
        }

        static boolean alike(Folks a, Folks b, List<int[]> pairs) {
            for (int[] p : pairs) {
                if (a.baker[p[0]] != b.baker[p[1]] || a.widow[p[0]] != b.widow[p[1]]) {
                    return false;
                }
                for (int[] q : pairs) {
                    if (a.near[p[0]][q[0]] != b.near[p[1]][q[1]] || a.owes[p[0]][q[0]] != b.owes[p[1]][q[1]]) {
                        return false;
                    }
                }
            }
            return true;
        }

        boolean found() {
            return s.nobody || !alike(s.town[0], s.town[1], s.pairs);
        }

        List<Integer> free(List<int[]> pairs, int town) {
            List<Integer> list = new ArrayList<>();
            for (int i = 0; i < s.town[town].n; i++) {
                if (partner(pairs, town, i) < 0) {
                    list.add(i);
                }
            }
            return list;
        }

        void remember() {
            past.addLast(s.copy());
            if (past.size() > 16) {
                past.removeFirst();
            }
        }

        int point(int town, int who, int back) {
            if (!isOne(town, who) || found() || partner(s.pairs, town, who) >= 0) {
                return -1;
            }
            List<Integer> there = free(s.pairs, 1 - town);
            if (back == -1 ? !there.isEmpty() : !there.contains(back)) {
                return -1;
            }
            remember();
            if (back == -1) {
                s.nobody = true;
            } else {
                s.pairs.add(town == 0 ? new int[] {who, back} : new int[] {back, who});
            }
            return found() ? 0 : 1;
        }

        boolean paint(int town, int who, int what) {
            if (!isOne(town, who) || what != 0 && what != 1) {
                return false;
            }
            remember();
            boolean[] row = what == 0 ? s.town[town].baker : s.town[town].widow;
            row[who] = !row[who];
            return true;
        }

        boolean link(int town, int who, int other, int what) {
            if (!isOne(town, who) || !isOne(town, other) || who == other || what != 0 && what != 1) {
                return false;
            }
            remember();
            boolean[][] table = what == 0 ? s.town[town].near : s.town[town].owes;
            table[who][other] = !table[who][other];
            if (what == 0) {
                table[other][who] = table[who][other];
            }
            return true;
        }

        boolean undo() {
            if (past.isEmpty()) {
                return false;
            }
            List<Object[]> reports = s.reports;
            s = past.removeLast();
            s.reports = reports;
            return true;
        }

        /** In how many rounds; sides as bits. */
        static int value(Folks a, Folks b, List<int[]> pairs, int sides) {
            if (!alike(a, b, pairs)) {
                return 0;
            }
            int best = INF;
            for (int town = 0; town < 2; town++) {
                for (int who = 0; who < (town == 0 ? a : b).n; who++) {
                    if ((sides >> town & 1) == 1 && partner(pairs, town, who) < 0) {
                        best = Math.min(best, pointed(a, b, pairs, sides, town, who));
                    }
                }
            }
            return best;
        }

        static int pointed(Folks a, Folks b, List<int[]> pairs, int sides, int town, int who) {
            int longest = 0;
            for (int back = 0; back < (town == 0 ? b : a).n; back++) {
                if (partner(pairs, 1 - town, back) < 0) {
                    longest = Math.max(longest, value(a, b, with(pairs, town, who, back), sides));
                }
            }
            return Math.min(INF, longest + 1);
        }

        static List<int[]> with(List<int[]> pairs, int town, int who, int back) {
            List<int[]> more = new ArrayList<>(pairs);
            more.add(town == 0 ? new int[] {who, back} : new int[] {back, who});
            return more;
        }

        static int none(int value) {
            return value >= INF ? -1 : value;
        }

        int left() {
            return found() ? 0 : none(value(s.town[0], s.town[1], s.pairs, 3));
        }

        int hint() {
            int left = left();
            if (left <= 0) {
                return -1;
            }
            for (int town = 0; town < 2; town++) {
                for (int who : free(s.pairs, town)) {
                    if (pointed(s.town[0], s.town[1], s.pairs, 3, town, who) == left) {
                        return 4 * town + who;
                    }
                }
            }
            throw new IllegalStateException();
        }

        int reply(int town, int who) {
            if (!isOne(town, who) || found() || partner(s.pairs, town, who) >= 0) {
                return -1;
            }
            int best = -1;
            int longest = -1;
            for (int back : free(s.pairs, 1 - town)) {
                int v = value(s.town[0], s.town[1], with(s.pairs, town, who, back), 3);
                if (v > longest) {
                    longest = v;
                    best = back;
                }
            }
            return best;
        }

        int rounds() {
            return none(value(s.town[0], s.town[1], List.of(), 3));
        }

        int sided(int town) {
            return town != 0 && town != 1 ? -1 : none(value(s.town[0], s.town[1], List.of(), 1 << town));
        }

        int keeps(int town, int who, int rounds) {
            if (!isOne(town, who) || rounds < 0 || rounds > 4) {
                return -1;
            }
            int b = 0;
            for (int back = 0; back < s.town[1 - town].n; back++) {
                if (value(s.town[0], s.town[1], with(List.of(), town, who, back), 3) > rounds) {
                    b |= 1 << back;
                }
            }
            return b;
        }

        /** A hand is 0 (not put on) or 1 + 4 * of the first town + of the second. */
        int hands(int many) {
            if (many < 1 || many > 3) {
                return -1;
            }
            Folks a = s.town[0];
            Folks b = s.town[1];
            int states = many == 1 ? 17 : many == 2 ? 289 : 4913;
            int[] power = {1, 17, 289};
            int[] found = new int[states];
            for (int i = 0; i < states; i++) {
                found[i] = handsAlike(a, b, i, many) ? INF : 0;
            }
            boolean more = true;
            for (int r = 1; more; r++) {
                more = false;
                for (int i = 0; i < states; i++) {
                    if (found[i] == INF) {
                        boolean wins = false;
                        for (int hand = 0; hand < many && !wins; hand++) {
                            int bare = i - i / power[hand] % 17 * power[hand];
                            for (int town = 0; town < 2 && !wins; town++) {
                                for (int who = 0; who < s.town[town].n && !wins; who++) {
                                    boolean all = true;
                                    for (int back = 0; back < s.town[1 - town].n && all; back++) {
                                        int pair = 1 + (town == 0 ? 4 * who + back : 4 * back + who);
                                        all = found[bare + pair * power[hand]] < r;
                                    }
                                    wins = all;
                                }
                            }
                        }
                        if (wins) {
                            found[i] = r;
                            more = true;
                        }
                    }
                }
            }
            return none(found[0]);
        }

        static boolean handsAlike(Folks a, Folks b, int state, int many) {
            List<int[]> pairs = new ArrayList<>();
            for (int h = 0, rest = state; h < many; h++, rest /= 17) {
                if (rest % 17 > 0) {
                    int[] p = {(rest % 17 - 1) / 4, (rest % 17 - 1) % 4};
                    if (p[0] >= a.n || p[1] >= b.n) {
                        return false;
                    }
                    for (int[] q : pairs) {
                        if ((p[0] == q[0]) != (p[1] == q[1])) {
                            return false;
                        }
                    }
                    pairs.add(p);
                }
            }
            return alike(a, b, pairs);
        }

        int colours(int what) {
            if (what < 0 || what > 2) {
                return -1;
            }
            String[][] colour = new String[2][4];
            for (int t = 0; t < 2; t++) {
                for (int i = 0; i < s.town[t].n; i++) {
                    colour[t][i] = s.town[t].baker[i] + "/" + s.town[t].widow[i];
                }
            }
            int many = different(colour);
            int times = 0;
            while (true) {
                String[][] next = new String[2][4];
                for (int t = 0; t < 2; t++) {
                    for (int i = 0; i < s.town[t].n; i++) {
                        List<String> near = new ArrayList<>();
                        List<String> owes = new ArrayList<>();
                        List<String> owed = new ArrayList<>();
                        for (int j = 0; j < s.town[t].n; j++) {
                            if (s.town[t].near[i][j]) {
                                near.add(colour[t][j]);
                            }
                            if (s.town[t].owes[i][j]) {
                                owes.add(colour[t][j]);
                            }
                            if (s.town[t].owes[j][i]) {
                                owed.add(colour[t][j]);
                            }
                        }
                        near.sort(null);
                        owes.sort(null);
                        owed.sort(null);
                        next[t][i] = "(" + colour[t][i] + near + owes + owed + ")";
                    }
                }
                int now = different(next);
                if (now <= many) {
                    break;
                }
                many = now;
                times++;
                Map<String, String> brief = new HashMap<>();
                for (int t = 0; t < 2; t++) {
                    for (int i = 0; i < s.town[t].n; i++) {
                        brief.putIfAbsent(next[t][i], "c" + brief.size());
                        colour[t][i] = brief.get(next[t][i]);
                    }
                }
            }
            if (what < 2) {
                return what == 0 ? times : many;
            }
            List<String> one = new ArrayList<>(Arrays.asList(colour[0]).subList(0, s.town[0].n));
            List<String> other = new ArrayList<>(Arrays.asList(colour[1]).subList(0, s.town[1].n));
            one.sort(null);
            other.sort(null);
            return one.equals(other) ? 0 : 1;
        }

        int different(String[][] colour) {
            Set<String> set = new HashSet<>();
            for (int t = 0; t < 2; t++) {
                for (int i = 0; i < s.town[t].n; i++) {
                    set.add(colour[t][i]);
                }
            }
            return set.size();
        }

        static List<int[]> pairings(Folks a, Folks b) {
            List<int[]> all = new ArrayList<>();
            if (a.n != b.n) {
                return all;
            }
            int total = (int) Math.pow(a.n, a.n);
            for (int code = 0; code < total; code++) {
                List<int[]> pairs = new ArrayList<>();
                int[] image = new int[a.n];
                int used = 0;
                for (int i = 0, rest = code; i < a.n; i++, rest /= a.n) {
                    image[i] = rest % a.n;
                    used |= 1 << image[i];
                    pairs.add(new int[] {i, image[i]});
                }
                if (used == (1 << a.n) - 1 && alike(a, b, pairs)) {
                    all.add(image);
                }
            }
            return all;
        }

        int ways() {
            return pairings(s.town[0], s.town[1]).size();
        }

        int selves(int town) {
            return town != 0 && town != 1 ? -1 : pairings(s.town[town], s.town[town]).size();
        }

        int orbit(int town, int who) {
            if (!isOne(town, who)) {
                return -1;
            }
            int b = 0;
            for (int[] image : pairings(s.town[town], s.town[town])) {
                b |= 1 << image[who];
            }
            return b;
        }

        int mend(int rounds) {
            if (rounds < 1 || rounds > 4) {
                return -1;
            }
            List<Folks> level = List.of(s.town[0]);
            for (int changes = 0; changes <= 2; changes++) {
                for (Folks f : level) {
                    if (value(f, s.town[1], List.of(), 3) > rounds) {
                        return changes;
                    }
                }
                List<Folks> next = new ArrayList<>();
                for (Folks f : level) {
                    next.addAll(neighbours(f));
                }
                level = next;
            }
            return -1;
        }

        static List<Folks> neighbours(Folks f) {
            List<Folks> list = new ArrayList<>();
            for (int i = 0; i < f.n; i++) {
                Folks g = f.copy();
                g.baker[i] = !g.baker[i];
                list.add(g);
                g = f.copy();
                g.widow[i] = !g.widow[i];
                list.add(g);
                for (int j = 0; j < f.n; j++) {
                    if (i != j) {
                        g = f.copy();
                        g.owes[i][j] = !g.owes[i][j];
                        list.add(g);
                    }
                    if (i < j) {
                        g = f.copy();
                        g.near[i][j] = !g.near[i][j];
                        g.near[j][i] = g.near[i][j];
                        list.add(g);
                    }
                }
            }
            return list;
        }

        static int elders(int m, int n) {
            if (m < 0 || m > 12 || n < 0 || n > 12) {
                return -1;
            }
            for (int r = 0; r <= 12; r++) {
                if (rowsParted(m, n, r)) {
                    return r;
                }
            }
            return -1;
        }

        /** A pointing leaves two pairs of rows, and one of them is played on. */
        static boolean rowsParted(int m, int n, int r) {
            if (r == 0 || m == n) {
                return false;
            }
            for (int side = 0; side < 2; side++) {
                int here = side == 0 ? m : n;
                int there = side == 0 ? n : m;
                for (int i = 0; i < here; i++) {
                    boolean all = true;
                    for (int j = 0; j < there && all; j++) {
                        all = rowsParted(i, j, r - 1) || rowsParted(here - 1 - i, there - 1 - j, r - 1);
                    }
                    if (all) {
                        return true;
                    }
                }
            }
            return false;
        }

        int far(int town, int who, int other) {
            if (!isOne(town, who) || !isOne(town, other)) {
                return -1;
            }
            int d = distances(s.town[town])[who][other];
            return d >= INF ? -1 : d;
        }

        static int[][] distances(Folks f) {
            int[][] d = new int[4][4];
            for (int i = 0; i < 4; i++) {
                for (int j = 0; j < 4; j++) {
                    d[i][j] = i == j ? 0 : f.near[i][j] ? 1 : INF;
                }
            }
            for (int k = 0; k < 4; k++) {
                for (int i = 0; i < 4; i++) {
                    for (int j = 0; j < 4; j++) {
                        d[i][j] = Math.min(d[i][j], d[i][k] + d[k][j]);
                    }
                }
            }
            return d;
        }

        int groups(int town) {
            if (town != 0 && town != 1) {
                return -1;
            }
            int many = 0;
            for (int i = 0; i < s.town[town].n; i++) {
                boolean first = true;
                for (int j = 0; j < i; j++) {
                    first &= distances(s.town[town])[i][j] >= INF;
                }
                many += first ? 1 : 0;
            }
            return many;
        }

        int loner(int town) {
            if (town != 0 && town != 1) {
                return -1;
            }
            int b = 0;
            for (int i = 0; i < s.town[town].n; i++) {
                if (folk(town, i, 2) == 0 && folk(town, i, 3) == 0 && folk(town, i, 4) == 0) {
                    b |= 1 << i;
                }
            }
            return b;
        }

        int most(int town) {
            if (town != 0 && town != 1) {
                return -1;
            }
            int best = -1;
            for (int i = 0; i < s.town[town].n; i++) {
                if (best < 0 || Integer.bitCount(folk(town, i, 2)) > Integer.bitCount(folk(town, best, 2))) {
                    best = i;
                }
            }
            return best;
        }

        static int depth(Node node) {
            int d = 0;
            for (Node kid : node.kids) {
                d = Math.max(d, depth(kid));
            }
            return d + (List.of("some", "all", "two").contains(node.verb) ? 1 : 0);
        }

        static int length(Node node) {
            int l = 1;
            for (Node kid : node.kids) {
                l += length(kid);
            }
            return l;
        }

        static void names(Node node, Set<String> set) {
            if (List.of("some", "all", "two").contains(node.verb)) {
                set.add(node.v);
            }
            for (Node kid : node.kids) {
                names(kid, set);
            }
        }

        int measure(int what) {
            if (claim == null || what < 0 || what > 2) {
                return -1;
            }
            Set<String> set = new HashSet<>();
            names(claim, set);
            return what == 0 ? depth(claim) : what == 1 ? set.size() : length(claim);
        }

        int so(int town) {
            return claim == null || town != 0 && town != 1 ? -1 : truth(claim, s.town[town]) ? 1 : 0;
        }

        boolean parts() {
            return claim != null && truth(claim, s.town[0]) != truth(claim, s.town[1]);
        }

        static final List<Folks> ALL = all75();

        static List<Folks> all75() {
            List<Folks> list = new ArrayList<>();
            for (int n = 0; n <= 3; n++) {
                int pairs = n * (n - 1) / 2;
                for (int bakers = 0; bakers < 1 << n; bakers++) {
                    for (int near = 0; near < 1 << pairs; near++) {
                        Folks f = new Folks();
                        f.n = n;
                        int k = 0;
                        for (int i = 0; i < n; i++) {
                            f.baker[i] = (bakers >> i & 1) == 1;
                            for (int j = 0; j < i; j++) {
                                boolean isNear = (near >> k++ & 1) == 1;
                                f.near[i][j] = isNear;
                                f.near[j][i] = isNear;
                            }
                        }
                        list.add(f);
                    }
                }
            }
            if (list.size() != 75) {
                throw new IllegalStateException();
            }
            return list;
        }

        int models() {
            if (claim == null) {
                return -1;
            }
            int many = 0;
            for (Folks f : ALL) {
                many += truth(claim, f) ? 1 : 0;
            }
            return many;
        }

        boolean report(boolean so) {
            if (claim == null || s.reports.size() >= 4) {
                return false;
            }
            s.reports.add(new Object[] {claim, so});
            return true;
        }

        List<Folks> lostTowns() {
            List<Folks> list = new ArrayList<>();
            for (Folks f : ALL) {
                boolean all = true;
                for (Object[] r : s.reports) {
                    all = all && truth((Node) r[0], f) == (Boolean) r[1];
                }
                if (all) {
                    list.add(f);
                }
            }
            return list;
        }

        int lost(int what) {
            List<Folks> list = lostTowns();
            if (what == 0) {
                return list.size();
            }
            if (what < 0 || what > 2 || list.isEmpty()) {
                return -1;
            }
            return what == 1 ? list.get(0).n : list.get(list.size() - 1).n;
        }

        int sure() {
            List<Folks> list = lostTowns();
            if (claim == null || list.isEmpty()) {
                return -1;
            }
            int many = 0;
            for (Folks f : list) {
                many += truth(claim, f) ? 1 : 0;
            }
            return many == 0 ? 0 : many == list.size() ? 1 : -1;
        }

        static int rests(int both, int loses, int gets, int what) {
            List<Integer> list = new ArrayList<>();
            int[][] first = {{0, gets}, {-loses, both}};
            for (int i = 0; i < 2; i++) {
                for (int j = 0; j < 2; j++) {
                    if (first[1 - i][j] <= first[i][j] && first[1 - j][i] <= first[j][i]) {
                        list.add(2 * i + j);
                    }
                }
            }
            boolean fine = Math.min(both, Math.min(loses, gets)) >= 0 && Math.max(both, Math.max(loses, gets)) <= 9;
            if (!fine || what < -1 || what >= list.size()) {
                throw new NoSuchElementException();
            }
            return what == -1 ? list.size() : list.get(what);
        }

        int plays(int seed, int many, int what) {
            if (seed < 0 || seed > 9999 || many < 1 || many > 99 || what < 0 || what > 1) {
                return -1;
            }
            long[] g = {seed};
            int foundOut = 0;
            int rounds = 0;
            for (int i = 0; i < many; i++) {
                List<int[]> pairs = new ArrayList<>(s.pairs);
                boolean found = found();
                while (!found && !(free(pairs, 0).isEmpty() && free(pairs, 1).isEmpty())) {
                    rounds++;
                    List<int[]> all = new ArrayList<>();
                    for (int t = 0; t < 2; t++) {
                        for (int w : free(pairs, t)) {
                            all.add(new int[] {t, w});
                        }
                    }
                    int[] one = all.get(draw(g, all.size()));
                    List<Integer> there = free(pairs, 1 - one[0]);
                    if (there.isEmpty()) {
                        found = true;
                    } else {
                        pairs = with(pairs, one[0], one[1], there.get(draw(g, there.size())));
                        found = !alike(s.town[0], s.town[1], pairs);
                    }
                }
                foundOut += found ? 1 : 0;
            }
            return what == 0 ? foundOut : rounds;
        }

        static int draw(long[] g, int m) {
            g[0] = java.math.BigInteger.valueOf(g[0]).multiply(java.math.BigInteger.valueOf(1103515245))
                    .add(java.math.BigInteger.valueOf(12345)).mod(java.math.BigInteger.valueOf(2147483648L))
                    .longValue();
            return (int) (g[0] / 65536 % m);
        }

        boolean mark(int mark, boolean back) {
            if (mark < 0 || mark > 3 || back && marks[mark] == null) {
                return false;
            }
            if (back) {
                s = marks[mark].copy();
                past.clear();
            } else {
                marks[mark] = s.copy();
            }
            return true;
        }

        int count(int what) {
            switch (what) {
                case 0: return s.town[0].n;
                case 1: return s.town[1].n;
                case 2: return s.pairs.size();
                case 3: return found() ? 1 : 0;
                case 4: return bits(s.town[0].baker);
                case 5: return bits(s.town[1].baker);
                case 6: return bits(s.town[0].widow);
                case 7: return bits(s.town[1].widow);
                case 8: return claim == null ? 0 : 1;
                case 9: return s.reports.size();
                case 10: return past.size();
                case 11: return tape.length();
                default: return -1;
            }
        }
    }

    // ---- random runs ----

    private static void due(int run, String call, long got, long want) {
        calls++;
        if (got != want) {
            wrong++;
            if (wrong < 50) {
                System.out.println("run " + run + ": " + call + " answered " + got + ", due is " + want);
            }
        }
    }

    private static void due(int run, String call, boolean got, boolean want) {
        due(run, call, got ? 1 : 0, want ? 1 : 0);
    }

    private static void run(int seed) {
        Random r = new Random(seed);
        TwoTowns x = new TwoTowns();
        Model m = new Model();
        if (seed % 10 != 0) {
            tell(seed, r, x, m, townsText(r));
            due(seed, "towns()", x.towns(), m.towns());
        }
        for (int i = 0; i < 60; i++) {
            call(seed, r, x, m);
        }
    }

    /** All questions of two towns of nearly one kind. */
    private static void sweep(int seed) {
        Random r = new Random(seed + 10000);
        TwoTowns x = new TwoTowns();
        Model m = new Model();
        String text = closeTowns(r);
        tell(seed, r, x, m, text);
        due(seed, "towns() " + text, x.towns(), m.towns());
        for (int i = 0; i < 4; i++) {
            due(seed, "hands " + text, x.hands(i), m.hands(i));
            due(seed, "colours " + text, x.colours(i), m.colours(i));
            if (seed % 8 == 0) {
                due(seed, "mend " + text, x.mend(i + 1), m.mend(i + 1));
            }
        }
        due(seed, "rounds " + text, x.rounds(), m.rounds());
        due(seed, "hint " + text, x.hint(), m.hint());
        due(seed, "ways " + text, x.ways(), m.ways());
        for (int t = 0; t < 2; t++) {
            due(seed, "sided " + text, x.sided(t), m.sided(t));
            due(seed, "selves " + text, x.selves(t), m.selves(t));
            due(seed, "groups " + text, x.groups(t), m.groups(t));
            due(seed, "loner " + text, x.loner(t), m.loner(t));
            due(seed, "most " + text, x.most(t), m.most(t));
            for (int f = 0; f < 4; f++) {
                due(seed, "reply " + text, x.reply(t, f), m.reply(t, f));
                due(seed, "orbit " + text, x.orbit(t, f), m.orbit(t, f));
                for (int k = 0; k < 5; k++) {
                    due(seed, "keeps " + text, x.keeps(t, f, k), m.keeps(t, f, k));
                    due(seed, "far " + text, x.far(t, f, k), m.far(t, f, k));
                }
            }
        }
    }

    /** The second town is the first one in another order, with a link more or less. */
    private static String closeTowns(Random r) {
        StringBuilder b = new StringBuilder();
        int n = r.nextInt(4) == 0 ? 3 : 4;
        for (int i = 0; i < 8; i++) {
            if (i % 4 < n) {
                b.append("folk ").append((char) ('a' + i)).append(" of ").append(i / 4 + 1).append(';');
            }
        }
        List<Integer> order = new ArrayList<>(List.of(0, 1, 2, 3).subList(0, n));
        java.util.Collections.shuffle(order, r);
        int near = r.nextInt(6);
        int owes = r.nextInt(3) == 0 ? r.nextInt(6) : 0;
        int marks = r.nextInt(4) == 0 ? 2 : 0;
        for (int i = 0; i < n; i++) {
            link(r, b, "baker", marks, i, -1, order);
            for (int j = 0; j < n; j++) {
                if (i < j) {
                    link(r, b, "near", near, i, j, order);
                }
                if (i != j) {
                    link(r, b, "owes", owes, i, j, order);
                }
            }
        }
        return b.toString();
    }

    private static void link(Random r, StringBuilder b, String verb, int often, int i, int j, List<Integer> order) {
        boolean there = r.nextInt(6) < often;
        for (int t = 0; t < 2; t++) {
            if (there != (r.nextInt(12) == 0 && often > 0)) {
                b.append(verb).append(' ').append((char) ('a' + 4 * t + (t == 0 ? i : order.get(i))));
                if (j >= 0) {
                    b.append(' ').append((char) ('a' + 4 * t + (t == 0 ? j : order.get(j))));
                }
                b.append(';');
            }
        }
    }

    private static void everyRow() {
        TwoTowns x = new TwoTowns();
        for (int i = -1; i < 14; i++) {
            for (int j = -1; j < 14; j++) {
                due(-1, "elders(" + i + ", " + j + ")", x.elders(i, j), Model.elders(i, j));
            }
        }
    }

    private static void tell(int seed, Random r, TwoTowns x, Model m, String text) {
        byte[] signs = text.getBytes(java.nio.charset.StandardCharsets.ISO_8859_1);
        for (int i = 0; i < signs.length; ) {
            long[] w = new long[3];
            int blanks = r.nextInt(4) == 0 ? r.nextInt(24) : -1;
            for (int k = 0; k < 24; k++) {
                int c = 0;
                if (k == blanks) {
                    c = r.nextInt(3) == 0 ? 127 + r.nextInt(129) : r.nextInt(10);
                } else if (i < signs.length) {
                    c = signs[i++];
                }
                w[k / 8] = w[k / 8] << 8 | c & 255;
            }
            due(seed, "feed(" + w[0] + ", " + w[1] + ", " + w[2] + ")", x.feed(w[0], w[1], w[2]),
                    m.feed(w[0], w[1], w[2]));
        }
    }

    private static String blank(Random r) {
        return r.nextInt(8) == 0 ? "\n  " : " ";
    }

    private static String townsText(Random r) {
        StringBuilder b = new StringBuilder();
        String[] names = {"ann", "bob", "cid", "dan", "eve", "fay", "gus", "hilaries"};
        int[] size = {r.nextInt(3) == 0 ? r.nextInt(5) : 3 + r.nextInt(2), r.nextInt(3) == 0 ? r.nextInt(5) : 3 + r.nextInt(2)};
        if (r.nextInt(3) > 0) {
            size[1] = size[0];
        }
        for (int t = 0; t < 2; t++) {
            for (int i = 0; i < size[t]; i++) {
                b.append("folk").append(blank(r)).append(names[4 * t + i]).append(" of ").append(t + 1);
                b.append(r.nextBoolean() ? ";" : " ;" + blank(r));
            }
        }
        int density = r.nextInt(5);
        boolean twin = r.nextInt(3) == 0;
        long same = r.nextLong();
        for (int t = 0; t < 2; t++) {
            Random q = new Random(twin ? same : r.nextLong());
            for (int i = 0; i < 4; i++) {
                for (int j = 0; j < 4; j++) {
                    boolean near = q.nextInt(5) < density;
                    boolean owes = q.nextInt(8) < density - 1;
                    boolean mark = q.nextInt(6) < density - 2;
                    if (i < size[t] && j < size[t]) {
                        if (near && i < j) {
                            b.append("near ").append(names[4 * t + i]).append(' ').append(names[4 * t + j]).append(" ; ");
                        }
                        if (owes && i != j) {
                            b.append("owes ").append(names[4 * t + i]).append(' ').append(names[4 * t + j]).append(" ; ");
                        }
                        if (mark && i == j) {
                            b.append(q.nextBoolean() ? "baker " : "widow ").append(names[4 * t + i]).append(" ; ");
                        }
                    }
                }
            }
        }
        return r.nextInt(6) == 0 ? spoil(r, b.toString()) : b.toString();
    }

    private static String spoil(Random r, String text) {
        String[] odd = {"x", "ann", "bob", "zed", "near", "owes", "folk", "baker", "of", ";", "3", "01", "12345", "2of",
            "abcdefghi", "A", "~", "1", "2", "not", "some y", "baker x", "same x y", ""};
        StringBuilder b = new StringBuilder(text);
        for (int i = r.nextInt(2); i < 2; i++) {
            int from = b.length() == 0 ? 0 : r.nextInt(b.length());
            int to = Math.min(b.length(), from + r.nextInt(6));
            b.replace(from, to, odd[r.nextInt(odd.length)]);
        }
        return b.toString();
    }

    private static String claimText(Random r, int depth, String bound, int wide) {
        String v = "xyzu";
        boolean atom = depth <= 0 || r.nextInt(6) == 0;
        if (bound.isEmpty() && atom && depth > -2) {
            atom = false;
        }
        if (atom) {
            String from = bound.isEmpty() || r.nextInt(60) == 0 ? v : bound;
            char a = from.charAt(r.nextInt(from.length()));
            char c = from.charAt(r.nextInt(from.length()));
            switch (r.nextInt(6)) {
                case 0: return "baker " + a;
                case 1: return "widow " + a;
                case 2: return "owes " + a + " " + c;
                case 3: return "same " + a + " " + c;
                default: return "near " + a + " " + c;
            }
        }
        int kind = r.nextInt(7 + wide);
        if (bound.isEmpty()) {
            kind = r.nextInt(4);
        }
        if (kind < 4) {
            char a = v.charAt(r.nextInt(4));
            String q = kind == 3 ? "two " : kind == 2 ? "all " : kind == 1 ? "some " : r.nextBoolean() ? "all " : "some ";
            return q + a + " " + claimText(r, depth - 1, bound.indexOf(a) < 0 ? bound + a : bound, wide);
        }
        if (kind == 4) {
            return "not " + claimText(r, depth - 1, bound, wide);
        }
        return (r.nextBoolean() ? "and " : "or ") + claimText(r, depth - 1, bound, wide) + blank(r)
                + claimText(r, depth - 1, bound, wide);
    }

    private static String claimText(Random r) {
        String text = claimText(r, r.nextInt(9), "", r.nextInt(4) == 0 ? 12 : 0);
        return r.nextInt(8) == 0 ? spoil(r, text) : text;
    }

    private static void call(int seed, Random r, TwoTowns x, Model m) {
        int[] odd = {-2, -1, 2, 4, 5, 31, 32, 33, -31, Integer.MAX_VALUE, Integer.MIN_VALUE};
        int t = r.nextInt(20) == 0 ? odd[r.nextInt(odd.length)] : r.nextInt(2);
        int f = r.nextInt(20) == 0 ? odd[r.nextInt(odd.length)] : r.nextInt(4);
        int g = r.nextInt(20) == 0 ? odd[r.nextInt(odd.length)] : r.nextInt(4);
        int w = r.nextInt(15) == 0 ? r.nextInt(9) - 2 : r.nextInt(2);
        boolean b = r.nextBoolean();
        String on = "(" + t + ", " + f + ", " + g + ", " + w + ")";
        switch (r.nextInt(46)) {
            case 0:
                if (r.nextInt(4) == 0) {
                    tell(seed, r, x, m, townsText(r));
                    due(seed, "towns()", x.towns(), m.towns());
                }
                break;
            case 1:
            case 2:
            case 3:
                tell(seed, r, x, m, claimText(r));
                due(seed, "claim()", x.claim(), m.claim());
                for (int i = 0; i < 3; i++) {
                    due(seed, "measure", x.measure(i), m.measure(i));
                }
                due(seed, "so(0)", x.so(0), m.so(0));
                due(seed, "so(1)", x.so(1), m.so(1));
                due(seed, "parts()", x.parts(), m.parts());
                due(seed, "models()", x.models(), m.models());
                due(seed, "sure()", x.sure(), m.sure());
                break;
            case 4: due(seed, "folk" + on, x.folk(t, f, g + 2 * w), m.folk(t, f, g + 2 * w)); break;
            case 5:
            case 6:
            case 7:
            case 8: due(seed, "point" + on, x.point(t, f, g), m.point(t, f, g)); break;
            case 9: due(seed, "point" + on, x.point(t, f, -1), m.point(t, f, -1)); break;
            case 10: {
                int back = m.reply(t, f);
                due(seed, "reply" + on, x.reply(t, f), back);
                due(seed, "point" + on, x.point(t, f, back), m.point(t, f, back));
                break;
            }
            case 11: due(seed, "paint" + on, x.paint(t, f, w), m.paint(t, f, w)); break;
            case 12: due(seed, "link" + on, x.link(t, f, g, w), m.link(t, f, g, w)); break;
            case 13:
            case 14: due(seed, "undo()", x.undo(), m.undo()); break;
            case 15:
            case 16:
            case 17: due(seed, "left()", x.left(), m.left()); break;
            case 18:
            case 19: due(seed, "hint()", x.hint(), m.hint()); break;
            case 20:
            case 21: due(seed, "reply" + on, x.reply(t, f), m.reply(t, f)); break;
            case 22: due(seed, "rounds()", x.rounds(), m.rounds()); break;
            case 23: due(seed, "sided" + on, x.sided(t), m.sided(t)); break;
            case 24: {
                int rounds = r.nextInt(7) - 1;
                due(seed, "keeps" + on + rounds, x.keeps(t, f, rounds), m.keeps(t, f, rounds));
                break;
            }
            case 25: {
                int many = r.nextInt(5);
                due(seed, "hands(" + many + ")", x.hands(many), m.hands(many));
                break;
            }
            case 26:
            case 27: {
                int what = r.nextInt(5) - 1;
                due(seed, "colours(" + what + ")", x.colours(what), m.colours(what));
                break;
            }
            case 28: due(seed, "ways()", x.ways(), m.ways()); break;
            case 29: due(seed, "selves" + on, x.selves(t), m.selves(t)); break;
            case 30: due(seed, "orbit" + on, x.orbit(t, f), m.orbit(t, f)); break;
            case 31: {
                int rounds = r.nextInt(6);
                if (r.nextInt(3) == 0) {
                    due(seed, "mend(" + rounds + ")", x.mend(rounds), m.mend(rounds));
                }
                break;
            }
            case 32: {
                int one = r.nextInt(15) - 1;
                int other = r.nextInt(15) - 1;
                due(seed, "elders(" + one + ", " + other + ")", x.elders(one, other), Model.elders(one, other));
                break;
            }
            case 33: due(seed, "far" + on, x.far(t, f, g), m.far(t, f, g)); break;
            case 34: due(seed, "groups" + on, x.groups(t), m.groups(t)); break;
            case 35: due(seed, "loner" + on, x.loner(t), m.loner(t)); break;
            case 36: due(seed, "most" + on, x.most(t), m.most(t)); break;
            case 37: due(seed, "measure" + on, x.measure(f - 1), m.measure(f - 1)); break;
            case 38: due(seed, "so" + on, x.so(t), m.so(t)); break;
            case 39: due(seed, "report(" + b + ")", x.report(b), m.report(b)); break;
            case 40: due(seed, "lost" + on, x.lost(f), m.lost(f)); break;
            case 41: due(seed, "sure()", x.sure(), m.sure()); break;
            case 42: showing(seed, r, x); break;
            case 43: {
                int from = r.nextInt(10) == 0 ? r.nextInt(3) * 10000 - 10000 : r.nextInt(10000);
                int many = r.nextInt(102) - 1;
                due(seed, "plays(" + from + ", " + many + ", " + w, x.plays(from, many, w), m.plays(from, many, w));
                break;
            }
            default: due(seed, "mark" + on + b, x.mark(f, b), m.mark(f, b)); break;
        }
        for (int i = -1; i <= 12; i++) {
            due(seed, "count(" + i + ")", x.count(i), m.count(i));
        }
    }

    private static void showing(int seed, Random r, TwoTowns x) {
        int[] p = {r.nextInt(12) - 1, r.nextInt(12) - 1, r.nextInt(12) - 1, r.nextInt(6) - 2};
        if (r.nextBoolean()) {
            p[1] = 0;
        }
        if (r.nextInt(3) == 0) {
            p[2] = p[0];
        }
        long got;
        long want;
        try {
            got = x.rests(p[0], p[1], p[2], p[3]);
        } catch (NoSuchElementException e) {
            got = -99;
        }
        try {
            want = Model.rests(p[0], p[1], p[2], p[3]);
        } catch (NoSuchElementException e) {
            want = -99;
        }
        due(seed, "rests" + Arrays.toString(p), got, want);
    }
}
