import java.util.ArrayList;
import java.util.Arrays;
import java.util.List;

/**
 * The document once more, as literally and slowly as can be: every way of a plan and of a rescue
 * is tried, NIGHTS are looked at one by one, a TEXT is read and valued anew each time. The class is
 * held against it by ModelTest.
 */
final class Model {
    private static final int BEYOND = Due.BEYOND;
    private static final int FULL = Due.FULL;
    private static final int KIND = Due.KIND;
    private static final int NONE = Due.NONE;
    private static final int STATE = Due.STATE;
    private static final int MISSING = Due.MISSING;
    private static final int SIZE = Due.SIZE;

    // a pitch: x, y, LENGTH, HEIGHT, SHADE, AMPS, FLAGS, POST, then reviews and all their stars
    // a party: kind, LENGTH, AMPS, WISHES, first, NIGHTS, pitch, near, PAID, hours, amps, reviewed
    private static final class Book {
        int today;
        int till;
        List<int[]> pitches = new ArrayList<>();
        List<int[]> parties = new ArrayList<>();
        List<int[]> washers = new ArrayList<>();
        int[] limits = {32, 32, 32, 32};
        int[] spots = {-1, -1, -1, -1, -1, -1, -1, -1, -1, -1};
        String[] laws = new String[2];

        Book copied() {
            Book b = new Book();
            b.today = today;
            b.till = till;
            pitches.forEach(p -> b.pitches.add(p.clone()));
            parties.forEach(p -> b.parties.add(p.clone()));
            washers.forEach(p -> b.washers.add(p.clone()));
            b.limits = limits.clone();
            b.spots = spots.clone();
            b.laws = laws.clone();
            return b;
        }
    }

    private Book book = new Book();
    private Book kept;
    private String tape = "";
    private final int[][] sheets = new int[4][];
    private final int[] bits = new int[4];
    private final int[] status = new int[7];

    /** The answer to a call by its name. */
    int call(String name, int[] a) {
        int answer = answer(name, a);
        if (answer <= BEYOND && answer >= SIZE) {
            status[BEYOND - answer]++;
        }
        return answer;
    }

    /** The answer to a call that changes nothing, without a finding being counted. */
    int peek(String name, int... a) {
        return answer(name, a);
    }

    private int answer(String name, int[] a) {
        switch (name) {
            case "pitch": return pitch(a[0], a[1], a[2], a[3]);
            case "pitchOf": return isPitch(a[0]) && in(a[1], 0, 7) ? book.pitches.get(a[0])[a[1]] : BEYOND;
            case "shade": return isPitch(a[0]) && in(a[1], 0, 9) ? swap(book.pitches.get(a[0]), 4, a[1]) : BEYOND;
            case "far": return isPitch(a[0]) && isPitch(a[1]) ? far(a[0], a[1]) : BEYOND;
            case "party": return party(a[0], a[1], a[2], a[3]);
            case "partyOf": return partyOf(a[0], a[1]);
            case "why": return isParty(a[0]) && isPitch(a[1]) ? why(a[0], a[1]) : BEYOND;
            case "near": return isParty(a[0]) && (a[1] == -1 || isParty(a[1])) && a[0] != a[1]
                    ? swap(book.parties.get(a[0]), 7, a[1]) : BEYOND;
            case "put": return put(a[0], a[1]);
            case "nights": return nights(a[0]);
            case "who": return isPitch(a[0]) && in(a[1], 0, 99) ? who(a[0], a[1]) : BEYOND;
            case "gaps": return a[0] == -1 ? allGaps() : isPitch(a[0]) ? gaps(a[0]) : BEYOND;
            case "plan": return plan(a[0]);
            case "apart": return apart();
            case "feed": return feed(a[0], a[1]);
            case "wipe": return wipe();
            case "law": return law(a[0]);
            case "repeal": return repeal(a[0]);
            case "says": return in(a[0], 0, 1) && isParty(a[1]) ? says(a[0], a[1]) : BEYOND;
            case "pay": return pay(a[0]);
            case "cancel": return cancel(a[0]);
            case "review": return review(a[0], a[1]);
            case "stars": return stars(a[0]);
            default: return laterAnswer(name, a);
        }
    }

    private int laterAnswer(String name, int[] a) {
        switch (name) {
            case "use": return use(a[0], a[1], a[2]);
            case "limit": return in(a[0], 0, 3) && in(a[1], 0, 200) ? swap(book.limits, a[0], a[1]) : BEYOND;
            case "load": return in(a[0], 0, 3) && in(a[1], 0, 23) ? load(a[0], a[1]) : BEYOND;
            case "trips": return trips(a[0]);
            case "may": return may(a[0], a[1], a[2], a[3]);
            case "wet": return wet(a[0]);
            case "rescue": return rescue(a[0], a[1]);
            case "wash": return wash(a[0], a[1]);
            case "block": return block(a[0], a[1]);
            case "dry": return dry();
            case "join": return join(a[0]);
            case "hold": return hold(a[0], a[1]);
            case "as": return as(a[0], a[1]);
            case "sheet": return sheet(a[0], a[1], a[2]);
            case "write": return write(a[0], a[1], a[2]);
            case "copy": return copy(a[0], a[1], a[2], a[3], a[4]);
            case "image": kept = book.copied(); return 1;
            case "undo": return undo();
            case "tear": return tear();
            case "count": return count(a[0]);
            case "status": return a[0] == -1 ? Arrays.stream(status).sum() : in(a[0], 0, 6) ? status[a[0]] : BEYOND;
            default: throw new IllegalArgumentException(name);
        }
    }

    private static boolean in(int v, int least, int most) {
        return least <= v && v <= most;
    }

    private static int swap(int[] row, int i, int v) {
        int was = row[i];
        row[i] = v;
        return was;
    }

    private boolean isPitch(int p) {
        return in(p, 0, book.pitches.size() - 1);
    }

    private boolean isParty(int p) {
        return in(p, 0, book.parties.size() - 1);
    }

    private int pitch(int at, int size, int has, int flags) {
        int[] row = {at / 100, at % 100, size / 100, size % 100, has / 100, has % 100, flags / 10, flags % 10, 0, 0};
        int[] least = {0, 0, 1, 0, 0, 0, 0, 0};
        int[] most = {99, 99, 30, 99, 9, 32, 7, 3};
        for (int i = 0; i < 8; i++) {
            if (!in(row[i], least[i], most[i])) {
                return BEYOND;
            }
        }
        if (book.pitches.size() == 12) {
            return FULL;
        }
        book.pitches.add(row);
        return book.pitches.size() - 1;
    }

    private int far(int a, int b) {
        int[] p = book.pitches.get(a);
        int[] q = book.pitches.get(b);
        return Math.abs(p[0] - q[0]) + Math.abs(p[1] - q[1]);
    }

    private int party(int kind, int size, int wishes, int stay) {
        int[] row = {kind, size / 100, size % 100, wishes, stay / 100, stay % 100, -1, -1, -1, 0, 0, 0};
        int[] least = {0, 1, 0, 0, book.today, 1};
        int[] most = {4, 30, 32, 7, 99, 30};
        for (int i = 0; i < 6; i++) {
            if (!in(row[i], least[i], most[i])) {
                return BEYOND;
            }
        }
        if (row[4] + row[5] - 1 > 99) {
            return BEYOND;
        }
        if (book.parties.size() == 24) {
            return FULL;
        }
        book.parties.add(row);
        return book.parties.size() - 1;
    }

    private boolean hasCome(int p) {
        return book.parties.get(p)[4] <= book.today;
    }

    private int partyOf(int p, int what) {
        if (!isParty(p) || !in(what, 0, 9)) {
            return BEYOND;
        }
        return what == 9 ? hasCome(p) ? 1 : 0 : book.parties.get(p)[what];
    }

    private int why(int party, int pitch) {
        int[] g = book.parties.get(party);
        int[] p = book.pitches.get(pitch);
        int plain = g[1] > p[2] ? 1 : (g[3] & 1) == 1 && (p[6] & 1) == 0 ? 2
                : (g[3] & 2) == 2 && (p[6] & 2) == 0 ? 3 : 0;
        int van = plain != 0 ? plain : g[2] > p[5] ? 5 : (g[3] & 4) == 4 && (p[6] & 4) == 0 ? 6 : 0;
        switch (g[0]) {
            case 0: return plain;
            case 1: return plain != 0 ? plain : p[4] > 6 ? 4 : 0;
            case 2: return van;
            case 3: return van != 0 ? van : g[1] + 3 > p[2] ? 7 : 0;
            default: return van != 0 ? van : (p[6] & 4) == 0 ? 6 : 0;
        }
    }

    private boolean staysIn(int[] party, int night) {
        return night >= party[4] && night < party[4] + party[5];
    }

    private int who(int pitch, int night) {
        for (int p = 0; p < book.parties.size(); p++) {
            int[] g = book.parties.get(p);
            if (g[6] == pitch && staysIn(g, night)) {
                return p;
            }
        }
        return -1;
    }

    private boolean isFreeFor(int party, int pitch) {
        int[] g = book.parties.get(party);
        for (int q = 0; q < book.parties.size(); q++) {
            int[] h = book.parties.get(q);
            for (int night = g[4]; night < g[4] + g[5]; night++) {
                if (q != party && h[6] == pitch && staysIn(h, night)) {
                    return false;
                }
            }
        }
        return true;
    }

    private int put(int party, int pitch) {
        if (!isParty(party) || !isPitch(pitch)) {
            return BEYOND;
        }
        int[] g = book.parties.get(party);
        if (g[6] == -2 || g[6] >= 0 && hasCome(party)) {
            return STATE;
        }
        if (why(party, pitch) != 0) {
            return KIND;
        }
        return isFreeFor(party, pitch) ? swap(g, 6, pitch) : NONE;
    }

    private int nights(int n) {
        if (!in(n, 1, 50)) {
            return BEYOND;
        }
        if (book.today + n > 99) {
            return STATE;
        }
        book.today += n;
        return book.today;
    }

    private int gaps(int pitch) {
        boolean[] isTaken = new boolean[100];
        for (int[] g : book.parties) {
            for (int night = g[4]; g[6] == pitch && night < g[4] + g[5]; night++) {
                isTaken[night] = true;
            }
        }
        int n = 0;
        for (int night = 1; night < 99; night++) {
            n += !isTaken[night] && isTaken[night - 1] && isTaken[night + 1] ? 1 : 0;
        }
        return n;
    }

    private int allGaps() {
        int n = 0;
        for (int pitch = 0; pitch < book.pitches.size(); pitch++) {
            n += gaps(pitch);
        }
        return n;
    }

    private int apart() {
        int n = 0;
        for (int[] g : book.parties) {
            if (g[7] != -1 && g[6] >= 0 && book.parties.get(g[7])[6] >= 0) {
                n += far(g[6], book.parties.get(g[7])[6]);
            }
        }
        return n;
    }

    private int plan(int set) {
        if (set < 0 || set >> book.parties.size() != 0 || !in(Integer.bitCount(set), 1, 4)) {
            return BEYOND;
        }
        List<Integer> members = new ArrayList<>();
        for (int p = 0; p < book.parties.size(); p++) {
            if ((set >> p & 1) == 1) {
                members.add(p);
                if (book.parties.get(p)[6] == -2 || hasCome(p)) {
                    return STATE;
                }
            }
        }
        members.forEach(p -> book.parties.get(p)[6] = -1);
        bestWay = null;
        tryAll(members, 0);
        for (int i = 0; i < members.size(); i++) {
            book.parties.get(members.get(i))[6] = bestWay[3 + i];
        }
        return -bestWay[0];
    }

    private int[] bestWay;

    /** A way: fewer than 0 by how many are on, gaps, far, then the pitches. */
    private void tryAll(List<Integer> members, int i) {
        if (i == members.size()) {
            int[] way = new int[3 + i];
            for (int j = 0; j < i; j++) {
                way[3 + j] = book.parties.get(members.get(j))[6];
                way[0] -= way[3 + j] >= 0 ? 1 : 0;
            }
            if (bestWay != null && way[0] > bestWay[0]) {
                return;
            }
            way[1] = allGaps();
            way[2] = apart();
            int[] ranked = ranked(way);
            if (bestWay == null || Arrays.compare(ranked, ranked(bestWay)) < 0) {
                bestWay = way;
            }
            return;
        }
        int party = members.get(i);
        for (int pitch = 0; pitch < book.pitches.size(); pitch++) {
            if (why(party, pitch) == 0 && isFreeFor(party, pitch)) {
                book.parties.get(party)[6] = pitch;
                tryAll(members, i + 1);
                book.parties.get(party)[6] = -1;
            }
        }
        tryAll(members, i + 1);
    }

    private static int[] ranked(int[] way) {
        int[] r = way.clone();
        for (int i = 3; i < r.length; i++) {
            r[i] = r[i] < 0 ? 99 : r[i];
        }
        return r;
    }

    private int feed(int bytes, int n) {
        if (!in(n, 1, 4)) {
            return BEYOND;
        }
        if (tape.length() + n > 120) {
            return FULL;
        }
        for (int i = n; i > 0; i--) {
            tape += (char) (bytes >> 8 * (i - 1) & 0xFF);
        }
        return tape.length();
    }

    private int wipe() {
        int had = tape.length();
        tape = "";
        return had;
    }

    private int law(int law) {
        if (!in(law, 0, 1)) {
            return BEYOND;
        }
        ModelText text = new ModelText(tape, new int[6]);
        String was = tape;
        tape = "";
        if (text.fault >= 0) {
            return -1 - text.fault;
        }
        book.laws[law] = was;
        return text.operands;
    }

    private int repeal(int law) {
        if (!in(law, 0, 1)) {
            return BEYOND;
        }
        boolean had = book.laws[law] != null;
        book.laws[law] = null;
        return had ? 1 : 0;
    }

    private int says(int law, int party) {
        int[] g = book.parties.get(party);
        int d = g[4] - book.today;
        if (book.laws[law] != null) {
            int o = 0;
            for (int q = 0; q < book.parties.size(); q++) {
                o += q != party && book.parties.get(q)[6] >= 0 && staysIn(book.parties.get(q), g[4]) ? 1 : 0;
            }
            int worth = new ModelText(book.laws[law], new int[] {g[1], g[2], g[5], g[0], d, o}).worth;
            return Math.max(0, Math.min(law == 0 ? 9999 : 100, worth));
        }
        if (law == 1) {
            return d >= 7 ? 100 : d >= 1 ? 50 : 0;
        }
        int plain = 10 + g[1];
        int van = plain + 2 * g[2];
        return new int[] {plain, plain - 3, van, 2 * van, van - van / 3}[g[0]];
    }

    private int pay(int party) {
        if (!isParty(party)) {
            return BEYOND;
        }
        int[] g = book.parties.get(party);
        if (g[6] == -2 || g[8] != -1) {
            return STATE;
        }
        g[8] = g[5] * says(0, party);
        book.till += g[8];
        return g[8];
    }

    private int cancel(int party) {
        if (!isParty(party)) {
            return BEYOND;
        }
        int[] g = book.parties.get(party);
        if (g[6] == -2 || g[6] >= 0 && hasCome(party)) {
            return STATE;
        }
        int gets = g[8] == -1 ? 0 : says(1, party) * g[8] / 100;
        g[6] = -2;
        book.till -= gets;
        return gets;
    }

    private int review(int party, int stars) {
        if (!isParty(party) || !in(stars, 1, 5)) {
            return BEYOND;
        }
        int[] g = book.parties.get(party);
        if (g[6] < 0 || g[4] + g[5] - 1 >= book.today || g[11] == 1) {
            return STATE;
        }
        g[11] = 1;
        int[] p = book.pitches.get(g[6]);
        p[9] += stars;
        return ++p[8];
    }

    private int stars(int pitch) {
        if (!isPitch(pitch)) {
            return BEYOND;
        }
        int[] p = book.pitches.get(pitch);
        return p[8] == 0 ? NONE : 100 * p[9] / p[8];
    }

    private int use(int party, int hours, int amps) {
        if (!isParty(party) || !in(hours, 0, 16777215) || !in(amps, 0, 40)) {
            return BEYOND;
        }
        book.parties.get(party)[9] = hours;
        book.parties.get(party)[10] = amps;
        return 1;
    }

    private boolean isHere(int party) {
        int[] g = book.parties.get(party);
        return g[6] >= 0 && staysIn(g, book.today);
    }

    private int load(int post, int hour) {
        int n = 0;
        for (int p = 0; p < book.parties.size(); p++) {
            int[] g = book.parties.get(p);
            if (isHere(p) && book.pitches.get(g[6])[7] == post && (g[9] >> hour & 1) == 1) {
                n += g[10];
            }
        }
        return n;
    }

    private int trips(int post) {
        if (!in(post, 0, 3)) {
            return BEYOND;
        }
        int set = 0;
        for (int hour = 0; hour < 24; hour++) {
            set += load(post, hour) > book.limits[post] ? 1 << hour : 0;
        }
        return set;
    }

    private int may(int party, int hour, int n, int amps) {
        if (!isParty(party) || !in(hour, 0, 23) || !in(n, 1, 24) || !in(amps, 0, 40)) {
            return BEYOND;
        }
        if (!isHere(party)) {
            return STATE;
        }
        int post = book.pitches.get(book.parties.get(party)[6])[7];
        for (int h = hour; h + n - 1 <= 23; h++) {
            boolean trips = false;
            for (int i = h; i < h + n; i++) {
                trips |= load(post, i) + amps > book.limits[post];
            }
            if (!trips) {
                return h;
            }
        }
        return NONE;
    }

    private int wet(int water) {
        if (!in(water, 0, 99)) {
            return BEYOND;
        }
        int set = 0;
        for (int p = 0; p < book.parties.size(); p++) {
            set += isWet(p, water) ? 1 << p : 0;
        }
        return set;
    }

    private boolean isWet(int p, int water) {
        return isHere(p) && book.pitches.get(book.parties.get(p)[6])[3] < water;
    }

    private int rescue(int water, int party) {
        if (!in(water, 0, 99) || party != -1 && !isParty(party)) {
            return BEYOND;
        }
        List<Integer> wets = new ArrayList<>();
        for (int p = 0; p < book.parties.size(); p++) {
            if (isWet(p, water)) {
                wets.add(p);
            }
        }
        bestWay = null;
        tryRescue(wets, water, new int[wets.size()], 0, 0, 0);
        if (party == -1) {
            return -bestWay[0];
        }
        int i = wets.indexOf(party);
        return i < 0 || bestWay[1 + i] < 0 ? NONE : bestWay[1 + i];
    }

    /** Ways come in the order of the document, so a later one is kept only if more are moved. */
    private void tryRescue(List<Integer> wets, int water, int[] goes, int i, int used, int moved) {
        if (bestWay != null && moved + wets.size() - i <= -bestWay[0]) {
            return;
        }
        if (i == wets.size()) {
            bestWay = new int[1 + i];
            bestWay[0] = -moved;
            System.arraycopy(goes, 0, bestWay, 1, i);
            return;
        }
        for (int pitch = 0; pitch < book.pitches.size(); pitch++) {
            if (book.pitches.get(pitch)[3] >= water && who(pitch, book.today) == -1
                    && (used >> pitch & 1) == 0 && why(wets.get(i), pitch) == 0) {
                goes[i] = pitch;
                tryRescue(wets, water, goes, i + 1, used | 1 << pitch, moved + 1);
            }
        }
        goes[i] = -1;
        tryRescue(wets, water, goes, i + 1, used, moved);
    }

    private int wash(int minute, int takes) {
        if (!in(minute, 0, 999) || !in(takes, 1, 60)) {
            return BEYOND;
        }
        if (book.washers.size() == 20) {
            return FULL;
        }
        book.washers.add(new int[] {minute, takes});
        return book.washers.size();
    }

    /** Minute by minute: who comes joins the queue, a shower that is free takes its first. */
    private int block(int showers, int what) {
        if (!in(showers, 1, 6) || !in(what, 0, 2)) {
            return BEYOND;
        }
        int[] freeAt = new int[showers];
        int longest = 0;
        int done = 0;
        int waiting = 0;
        List<int[]> queue = new ArrayList<>();
        for (int minute = 0; minute < 3000; minute++) {
            for (int[] w : book.washers) {
                if (w[0] == minute) {
                    queue.add(w);
                }
            }
            for (int s = 0; s < showers; s++) {
                if (freeAt[s] <= minute && !queue.isEmpty()) {
                    int[] w = queue.remove(0);
                    freeAt[s] = minute + w[1];
                    done = Math.max(done, freeAt[s]);
                    longest = Math.max(longest, minute - w[0]);
                    waiting += minute > w[0] ? 1 : 0;
                }
            }
        }
        return what == 0 ? longest : what == 1 ? done : waiting;
    }

    private int dry() {
        int had = book.washers.size();
        book.washers.clear();
        return had;
    }

    private int join(int s) {
        if (!in(s, 0, 3)) {
            return BEYOND;
        }
        int[] v = sheets[s];
        if (v == null) {
            return MISSING;
        }
        if (v.length % 3 != 0) {
            return SIZE;
        }
        for (int i = 0; i < v.length; i += 3) {
            if (!isPitch(v[i]) || !in(v[i + 1], 0, 99) || !in(v[i + 2], 1, 30) || v[i + 1] + v[i + 2] > 100) {
                return BEYOND;
            }
        }
        for (int i = 0; i < v.length; i += 3) {
            for (int night = v[i + 1]; night < v[i + 1] + v[i + 2]; night++) {
                if (who(v[i], night) != -1) {
                    return i / 3;
                }
                for (int j = 0; j < i; j += 3) {
                    if (v[j] == v[i] && in(night, v[j + 1], v[j + 1] + v[j + 2] - 1)) {
                        return i / 3;
                    }
                }
            }
        }
        return -1;
    }

    private int hold(int spot, int party) {
        if (!in(spot, 0, 9) || party != -1 && !isParty(party)) {
            return BEYOND;
        }
        book.spots[spot] = party;
        return 1;
    }

    private int as(int spot, int kind) {
        if (!in(spot, 0, 9) || !in(kind, 0, 4)) {
            return BEYOND;
        }
        int party = book.spots[spot];
        if (party == -1) {
            return MISSING;
        }
        int is = book.parties.get(party)[0];
        return kind == 0 || is == kind || kind == 2 && is >= 2 ? party : KIND;
    }

    private int sheet(int s, int width, int n) {
        if (!in(s, 0, 3) || width != 0 && width != 8 && width != 16 && width != 32) {
            return BEYOND;
        }
        if (n < 0) {
            return SIZE;
        }
        if (n > 60) {
            return BEYOND;
        }
        bits[s] = width;
        sheets[s] = width == 0 ? null : new int[n];
        return width == 0 ? 0 : n;
    }

    private int write(int s, int i, int v) {
        if (!in(s, 0, 3)) {
            return BEYOND;
        }
        if (sheets[s] == null) {
            return MISSING;
        }
        if (!in(i, 0, sheets[s].length - 1)) {
            return BEYOND;
        }
        sheets[s][i] = bits[s] == 8 ? (byte) v : bits[s] == 16 ? (short) v : v;
        return 1;
    }

    private int copy(int s, int from, int t, int to, int n) {
        if (!in(s, 0, 3) || !in(t, 0, 3)) {
            return BEYOND;
        }
        if (sheets[s] == null || sheets[t] == null) {
            return MISSING;
        }
        if (bits[s] != bits[t]) {
            return KIND;
        }
        if (from < 0 || to < 0 || n < 0 || (long) from + n > sheets[s].length || (long) to + n > sheets[t].length) {
            return BEYOND;
        }
        int[] were = sheets[s].clone();
        for (int i = 0; i < n; i++) {
            sheets[t][to + i] = were[from + i];
        }
        return n;
    }

    private int undo() {
        if (kept == null) {
            return NONE;
        }
        book = kept.copied();
        return book.today;
    }

    private int tear() {
        boolean was = kept != null;
        kept = null;
        return was ? 1 : 0;
    }

    private int count(int what) {
        int here = 0;
        int waiting = 0;
        for (int p = 0; p < book.parties.size(); p++) {
            here += isHere(p) ? 1 : 0;
            waiting += book.parties.get(p)[6] == -1 ? 1 : 0;
        }
        int[] all = {book.today, book.pitches.size(), book.parties.size(), book.till, tape.length(),
            book.washers.size(), here, waiting};
        return in(what, 0, 7) ? all[what] : BEYOND;
    }
}
