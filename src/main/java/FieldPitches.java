/**
 * Pitches of a field, the parties that stay on them, and what belongs to both. The document
 * (../shared/DOC.md) says what every call answers; words in capitals here are its terms.
 *
 * <p>Every row that a call needs is made in the constructor: no call makes an object.
 */
public final class FieldPitches {
    private static final int BEYOND = -1000001;
    private static final int FULL = BEYOND - 1;
    private static final int KIND = BEYOND - 2;
    private static final int NONE = BEYOND - 3;
    private static final int STATE = BEYOND - 4;
    private static final int MISSING = BEYOND - 5;
    private static final int SIZE = BEYOND - 6;
    private static final int FINDINGS = 7;

    private static final int LAST_NIGHT = 99;
    private static final int MOST_NIGHTS = 30;
    private static final int MOST_LENGTH = 30;
    private static final int MOST_AMPS = 32;
    private static final int MOST_USED_AMPS = 40;
    private static final int MOST_HEIGHT = 99;
    private static final int MOST_SHADE = 9;
    private static final int MOST_PITCHES = 12;
    private static final int MOST_PARTIES = 24;
    private static final int MOST_PLANNED = 4;
    private static final int MOST_BYTES = 120;
    private static final int MOST_WASHERS = 20;
    private static final int MOST_SHOWERS = 6;
    private static final int MOST_NUMBERS = 60;
    private static final int POSTS = 4;
    private static final int HOURS = 24;
    private static final int ALL_HOURS = 16777215;
    private static final int SPOTS = 10;
    private static final int SHEETS = 4;
    private static final int LAWS = 2;
    private static final int KINDS = 5;

    private static final int PRICE_LAW = 0;
    private static final int REFUND_LAW = 1;

    private static final int DOGS = 1;
    private static final int HUSH = 2;
    private static final int SEWER = 4;

    private static final int NOBODY = -1;
    private static final int WAITS = -1;
    private static final int CANCELLED = -2;
    private static final int NOT_PAID = -1;

    private final Site site;
    private final Site kept;
    private final Calendar calendar;
    private final Planner planner;
    private final Rescuer rescuer;
    private final Tape tape;
    private final Sheet[] sheets;
    private final int[] found;
    private boolean isKept;

    public FieldPitches() {
        site = new Site();
        kept = new Site();
        calendar = new Calendar();
        planner = new Planner(site, calendar);
        rescuer = new Rescuer(site);
        tape = new Tape();
        sheets = new Sheet[SHEETS];
        for (int s = 0; s < SHEETS; s++) {
            sheets[s] = new Sheet();
        }
        found = new int[FINDINGS];
        isKept = false;
    }

    // ---- pitches, parties

    public int pitch(int at, int size, int has, int flags) {
        boolean fine = isIn(at, 0, 9999)
                && isIn(size, 100, 100 * MOST_LENGTH + MOST_HEIGHT)
                && isIn(has, 0, 100 * MOST_SHADE + MOST_AMPS) && has % 100 <= MOST_AMPS
                && isIn(flags, 0, 10 * (DOGS + HUSH + SEWER) + POSTS - 1) && flags % 10 < POSTS;
        if (!fine) {
            return finding(BEYOND);
        }
        if (site.pitchCount >= MOST_PITCHES) {
            return finding(FULL);
        }
        int number = site.pitchCount;
        site.pitches[number].begin(at, size, has, flags);
        site.pitchCount = number + 1;
        return number;
    }

    public int pitchOf(int pitch, int what) {
        if (!site.isPitch(pitch) || !isIn(what, 0, 7)) {
            return finding(BEYOND);
        }
        return site.pitches[pitch].trait(what);
    }

    public int shade(int pitch, int v) {
        if (!site.isPitch(pitch) || !isIn(v, 0, MOST_SHADE)) {
            return finding(BEYOND);
        }
        int was = site.pitches[pitch].shade;
        site.pitches[pitch].shade = v;
        return was;
    }

    public int far(int a, int b) {
        if (!site.isPitch(a) || !site.isPitch(b)) {
            return finding(BEYOND);
        }
        return site.distance(a, b);
    }

    public int party(int kind, int size, int wishes, int stay) {
        boolean fine = isIn(kind, 0, KINDS - 1)
                && isIn(size, 100, 100 * MOST_LENGTH + MOST_AMPS) && size % 100 <= MOST_AMPS
                && isIn(wishes, 0, DOGS + HUSH + SEWER)
                && stay >= 0 && isStay(stay / 100, stay % 100) && stay / 100 >= site.today;
        if (!fine) {
            return finding(BEYOND);
        }
        if (site.partyCount >= MOST_PARTIES) {
            return finding(FULL);
        }
        int number = site.partyCount;
        site.parties[number].begin(kind, size, wishes, stay);
        site.partyCount = number + 1;
        return number;
    }

    public int partyOf(int party, int what) {
        if (!site.isParty(party) || !isIn(what, 0, 9)) {
            return finding(BEYOND);
        }
        if (what == 9) {
            return site.hasCome(party) ? 1 : 0;
        }
        return site.parties[party].trait(what);
    }

    public int why(int party, int pitch) {
        if (!site.isParty(party) || !site.isPitch(pitch)) {
            return finding(BEYOND);
        }
        return Kinds.reason(site.parties[party], site.pitches[pitch]);
    }

    public int near(int party, int other) {
        if (!site.isParty(party) || !site.isPartyOrNobody(other) || party == other) {
            return finding(BEYOND);
        }
        int was = site.parties[party].near;
        site.parties[party].near = other;
        return was;
    }

    public int put(int party, int pitch) {
        if (!site.isParty(party) || !site.isPitch(pitch)) {
            return finding(BEYOND);
        }
        Party p = site.parties[party];
        if (p.pitch == CANCELLED || site.isSettled(party)) {
            return finding(STATE);
        }
        if (Kinds.reason(p, site.pitches[pitch]) != 0) {
            return finding(KIND);
        }
        site.mark(calendar, 1 << party);
        if (!calendar.isFree(pitch, p.lowNights, p.highNights)) {
            return finding(NONE);
        }
        int was = p.pitch;
        p.pitch = pitch;
        return was;
    }

    public int nights(int n) {
        if (!isIn(n, 1, 50)) {
            return finding(BEYOND);
        }
        if (site.today + n > LAST_NIGHT) {
            return finding(STATE);
        }
        site.today += n;
        return site.today;
    }

    public int who(int pitch, int night) {
        if (!site.isPitch(pitch) || !isIn(night, 0, LAST_NIGHT)) {
            return finding(BEYOND);
        }
        return site.holder(pitch, night);
    }

    public int gaps(int pitch) {
        if (pitch != -1 && !site.isPitch(pitch)) {
            return finding(BEYOND);
        }
        site.mark(calendar, 0);
        if (pitch != -1) {
            return calendar.lonelyNights(pitch);
        }
        int all = 0;
        for (int p = 0; p < site.pitchCount; p++) {
            all += calendar.lonelyNights(p);
        }
        return all;
    }

    public int plan(int set) {
        int parties = (1 << site.partyCount) - 1;
        if ((set & ~parties) != 0 || !isIn(Integer.bitCount(set), 1, MOST_PLANNED)) {
            return finding(BEYOND);
        }
        for (int party = 0; party < site.partyCount; party++) {
            boolean isMeant = (set >> party & 1) != 0;
            if (isMeant && (site.parties[party].pitch == CANCELLED || site.hasCome(party))) {
                return finding(STATE);
            }
        }
        return planner.make(set);
    }

    public int apart() {
        int all = 0;
        for (int party = 0; party < site.partyCount; party++) {
            int other = site.parties[party].near;
            if (other != NOBODY && site.isOn(party) && site.isOn(other)) {
                all += site.distance(site.parties[party].pitch, site.parties[other].pitch);
            }
        }
        return all;
    }

    // ---- texts, money

    public int feed(int bytes, int n) {
        if (!isIn(n, 1, 4)) {
            return finding(BEYOND);
        }
        if (tape.size + n > MOST_BYTES) {
            return finding(FULL);
        }
        for (int i = n - 1; i >= 0; i--) {
            tape.append(bytes >>> 8 * i & 255);
        }
        return tape.size;
    }

    public int wipe() {
        int had = tape.size;
        tape.size = 0;
        return had;
    }

    public int law(int law) {
        if (!isIn(law, 0, LAWS - 1)) {
            return finding(BEYOND);
        }
        boolean isText = tape.readText();
        tape.size = 0;
        if (!isText) {
            return -1 - tape.fault;
        }
        site.laws[law].begin(tape.code, tape.codeSize);
        return tape.operands;
    }

    public int repeal(int law) {
        if (!isIn(law, 0, LAWS - 1)) {
            return finding(BEYOND);
        }
        boolean had = site.laws[law].stands;
        site.laws[law].stands = false;
        return had ? 1 : 0;
    }

    public int says(int law, int party) {
        if (!isIn(law, 0, LAWS - 1) || !site.isParty(party)) {
            return finding(BEYOND);
        }
        return law == PRICE_LAW ? site.priceNow(party) : site.refundNow(party);
    }

    public int pay(int party) {
        if (!site.isParty(party)) {
            return finding(BEYOND);
        }
        Party p = site.parties[party];
        if (p.pitch == CANCELLED || p.paid != NOT_PAID) {
            return finding(STATE);
        }
        p.paid = p.nights * site.priceNow(party);
        site.till += p.paid;
        return p.paid;
    }

    public int cancel(int party) {
        if (!site.isParty(party)) {
            return finding(BEYOND);
        }
        Party p = site.parties[party];
        if (p.pitch == CANCELLED || site.isSettled(party)) {
            return finding(STATE);
        }
        int gets = p.paid == NOT_PAID ? 0 : p.paid * site.refundNow(party) / 100;
        p.pitch = CANCELLED;
        site.till -= gets;
        return gets;
    }

    public int review(int party, int stars) {
        if (!site.isParty(party) || !isIn(stars, 1, 5)) {
            return finding(BEYOND);
        }
        Party p = site.parties[party];
        if (!site.isOn(party) || p.lastNight() >= site.today || p.hasReviewed) {
            return finding(STATE);
        }
        p.hasReviewed = true;
        Pitch place = site.pitches[p.pitch];
        place.reviews++;
        place.allStars += stars;
        return place.reviews;
    }

    public int stars(int pitch) {
        if (!site.isPitch(pitch)) {
            return finding(BEYOND);
        }
        Pitch place = site.pitches[pitch];
        if (place.reviews == 0) {
            return finding(NONE);
        }
        return 100 * place.allStars / place.reviews;
    }

    // ---- power, storms

    public int use(int party, int hours, int amps) {
        if (!site.isParty(party) || !isIn(hours, 0, ALL_HOURS) || !isIn(amps, 0, MOST_USED_AMPS)) {
            return finding(BEYOND);
        }
        site.parties[party].usedHours = hours;
        site.parties[party].usedAmps = amps;
        return 1;
    }

    public int limit(int post, int v) {
        if (!isIn(post, 0, POSTS - 1) || !isIn(v, 0, 200)) {
            return finding(BEYOND);
        }
        int was = site.limits[post];
        site.limits[post] = v;
        return was;
    }

    public int load(int post, int hour) {
        if (!isIn(post, 0, POSTS - 1) || !isIn(hour, 0, HOURS - 1)) {
            return finding(BEYOND);
        }
        return site.loadNow(post, hour);
    }

    public int trips(int post) {
        if (!isIn(post, 0, POSTS - 1)) {
            return finding(BEYOND);
        }
        int set = 0;
        for (int hour = 0; hour < HOURS; hour++) {
            if (site.loadNow(post, hour) > site.limits[post]) {
                set |= 1 << hour;
            }
        }
        return set;
    }

    public int may(int party, int hour, int n, int amps) {
        boolean fine = site.isParty(party) && isIn(hour, 0, HOURS - 1)
                && isIn(n, 1, HOURS) && isIn(amps, 0, MOST_USED_AMPS);
        if (!fine) {
            return finding(BEYOND);
        }
        if (!site.isHere(party)) {
            return finding(STATE);
        }
        int post = site.pitches[site.parties[party].pitch].post;
        int inRow = 0;
        for (int h = hour; h < HOURS; h++) {
            boolean holds = site.loadNow(post, h) + amps <= site.limits[post];
            inRow = holds ? inRow + 1 : 0;
            if (inRow == n) {
                return h - n + 1;
            }
        }
        return finding(NONE);
    }

    public int wet(int water) {
        if (!isIn(water, 0, MOST_HEIGHT)) {
            return finding(BEYOND);
        }
        int set = 0;
        for (int party = 0; party < site.partyCount; party++) {
            if (site.isWet(party, water)) {
                set |= 1 << party;
            }
        }
        return set;
    }

    public int rescue(int water, int party) {
        if (!isIn(water, 0, MOST_HEIGHT) || !site.isPartyOrNobody(party)) {
            return finding(BEYOND);
        }
        int moved = rescuer.work(water);
        if (party == NOBODY) {
            return moved;
        }
        int goal = rescuer.goalOf(party);
        return goal < 0 ? finding(NONE) : goal;
    }

    // ---- wash blocks, two books

    public int wash(int minute, int takes) {
        if (!isIn(minute, 0, 999) || !isIn(takes, 1, 60)) {
            return finding(BEYOND);
        }
        if (site.washers.size >= MOST_WASHERS) {
            return finding(FULL);
        }
        site.washers.insert(minute, takes);
        return site.washers.size;
    }

    public int block(int showers, int what) {
        if (!isIn(showers, 1, MOST_SHOWERS) || !isIn(what, 0, 2)) {
            return finding(BEYOND);
        }
        Washers washers = site.washers;
        washers.serve(showers);
        if (what == 0) {
            return washers.longestWait;
        }
        return what == 1 ? washers.allDone : washers.waiting;
    }

    public int dry() {
        int had = site.washers.size;
        site.washers.size = 0;
        return had;
    }

    public int join(int s) {
        if (!isIn(s, 0, SHEETS - 1)) {
            return finding(BEYOND);
        }
        Sheet rows = sheets[s];
        if (rows.isMissing()) {
            return finding(MISSING);
        }
        if (rows.size % 3 != 0) {
            return finding(SIZE);
        }
        if (!areStays(rows)) {
            return finding(BEYOND);
        }
        return firstClash(rows);
    }

    // ---- spots, sheets

    public int hold(int spot, int party) {
        if (!isIn(spot, 0, SPOTS - 1) || !site.isPartyOrNobody(party)) {
            return finding(BEYOND);
        }
        site.spots[spot] = party;
        return 1;
    }

    public int as(int spot, int kind) {
        if (!isIn(spot, 0, SPOTS - 1) || !isIn(kind, 0, KINDS - 1)) {
            return finding(BEYOND);
        }
        int held = site.spots[spot];
        if (held == NOBODY) {
            return finding(MISSING);
        }
        if (!Kinds.isUnder(site.parties[held].kind, kind)) {
            return finding(KIND);
        }
        return held;
    }

    public int sheet(int s, int bits, int n) {
        boolean isWidth = bits == 0 || bits == 8 || bits == 16 || bits == 32;
        if (!isIn(s, 0, SHEETS - 1) || !isWidth) {
            return finding(BEYOND);
        }
        if (n < 0) {
            return finding(SIZE);
        }
        if (n > MOST_NUMBERS) {
            return finding(BEYOND);
        }
        sheets[s].begin(bits, bits == 0 ? 0 : n);
        return sheets[s].size;
    }

    public int write(int s, int i, int v) {
        if (!isIn(s, 0, SHEETS - 1)) {
            return finding(BEYOND);
        }
        if (sheets[s].isMissing()) {
            return finding(MISSING);
        }
        if (!isIn(i, 0, sheets[s].size - 1)) {
            return finding(BEYOND);
        }
        sheets[s].change(i, v);
        return 1;
    }

    public int copy(int s, int from, int t, int to, int n) {
        if (!isIn(s, 0, SHEETS - 1) || !isIn(t, 0, SHEETS - 1)) {
            return finding(BEYOND);
        }
        Sheet source = sheets[s];
        Sheet target = sheets[t];
        if (source.isMissing() || target.isMissing()) {
            return finding(MISSING);
        }
        if (source.bits != target.bits) {
            return finding(KIND);
        }
        if (!source.hasRange(from, n) || !target.hasRange(to, n)) {
            return finding(BEYOND);
        }
        System.arraycopy(source.numbers, from, target.numbers, to, n);
        return n;
    }

    // ---- images

    public int image() {
        kept.become(site);
        isKept = true;
        return 1;
    }

    public int undo() {
        if (!isKept) {
            return finding(NONE);
        }
        site.become(kept);
        return site.today;
    }

    public int tear() {
        boolean was = isKept;
        isKept = false;
        return was ? 1 : 0;
    }

    public int count(int what) {
        switch (what) {
            case 0: return site.today;
            case 1: return site.pitchCount;
            case 2: return site.partyCount;
            case 3: return site.till;
            case 4: return tape.size;
            case 5: return site.washers.size;
            case 6: return site.partiesHere();
            case 7: return site.partiesWaiting();
            default: return finding(BEYOND);
        }
    }

    public int status(int which) {
        if (!isIn(which, -1, FINDINGS - 1)) {
            return finding(BEYOND);
        }
        if (which >= 0) {
            return found[which];
        }
        int all = 0;
        for (int i = 0; i < FINDINGS; i++) {
            all += found[i];
        }
        return all;
    }

    private int finding(int which) {
        int i = BEYOND - which;
        if (i >= 0 && i < FINDINGS) {
            found[i]++;
        }
        return which;
    }

    private boolean areStays(Sheet rows) {
        for (int i = 0; i + 2 < rows.size; i += 3) {
            boolean fine = site.isPitch(rows.numbers[i])
                    && isStay(rows.numbers[i + 1], rows.numbers[i + 2]);
            if (!fine) {
                return false;
            }
        }
        return true;
    }

    private int firstClash(Sheet rows) {
        site.mark(calendar, 0);
        for (int i = 0; i + 2 < rows.size; i += 3) {
            int pitch = rows.numbers[i];
            long low = Calendar.lowNights(rows.numbers[i + 1], rows.numbers[i + 2]);
            long high = Calendar.highNights(rows.numbers[i + 1], rows.numbers[i + 2]);
            if (!calendar.isFree(pitch, low, high)) {
                return i / 3;
            }
            calendar.take(pitch, low, high);
        }
        return -1;
    }

    private static boolean isIn(int v, int least, int most) {
        return v >= least && v <= most;
    }

    private static boolean isStay(int first, int nights) {
        return isIn(first, 0, LAST_NIGHT) && isIn(nights, 1, MOST_NIGHTS)
                && first + nights - 1 <= LAST_NIGHT;
    }

    /** A PITCH and its REVIEWS. */
    private static final class Pitch {
        int x;
        int y;
        int length;
        int height;
        int shade;
        int amps;
        int flags;
        int post;
        int reviews;
        int allStars;

        void begin(int at, int size, int has, int flagsAndPost) {
            x = at / 100;
            y = at % 100;
            length = size / 100;
            height = size % 100;
            shade = has / 100;
            amps = has % 100;
            flags = flagsAndPost / 10;
            post = flagsAndPost % 10;
            reviews = 0;
            allStars = 0;
        }

        void become(Pitch other) {
            x = other.x;
            y = other.y;
            length = other.length;
            height = other.height;
            shade = other.shade;
            amps = other.amps;
            flags = other.flags;
            post = other.post;
            reviews = other.reviews;
            allStars = other.allStars;
        }

        int trait(int what) {
            switch (what) {
                case 0: return x;
                case 1: return y;
                case 2: return length;
                case 3: return height;
                case 4: return shade;
                case 5: return amps;
                case 6: return flags;
                default: return post;
            }
        }

        boolean offers(int flag) {
            return (flags & flag) != 0;
        }
    }

    /** A PARTY; its NIGHTS are held as bits too, as a Calendar takes them. */
    private static final class Party {
        int kind;
        int length;
        int amps;
        int wishes;
        int first;
        int nights;
        long lowNights;
        long highNights;
        int pitch;
        int near;
        int paid;
        int usedHours;
        int usedAmps;
        boolean hasReviewed;

        void begin(int itsKind, int size, int itsWishes, int stay) {
            kind = itsKind;
            length = size / 100;
            amps = size % 100;
            wishes = itsWishes;
            first = stay / 100;
            nights = stay % 100;
            lowNights = Calendar.lowNights(first, nights);
            highNights = Calendar.highNights(first, nights);
            pitch = WAITS;
            near = NOBODY;
            paid = NOT_PAID;
            usedHours = 0;
            usedAmps = 0;
            hasReviewed = false;
        }

        void become(Party other) {
            kind = other.kind;
            length = other.length;
            amps = other.amps;
            wishes = other.wishes;
            first = other.first;
            nights = other.nights;
            lowNights = other.lowNights;
            highNights = other.highNights;
            pitch = other.pitch;
            near = other.near;
            paid = other.paid;
            usedHours = other.usedHours;
            usedAmps = other.usedAmps;
            hasReviewed = other.hasReviewed;
        }

        int trait(int what) {
            switch (what) {
                case 0: return kind;
                case 1: return length;
                case 2: return amps;
                case 3: return wishes;
                case 4: return first;
                case 5: return nights;
                case 6: return pitch;
                case 7: return near;
                default: return paid;
            }
        }

        int lastNight() {
            return first + nights - 1;
        }

        boolean stays(int night) {
            return night >= first && night <= lastNight();
        }

        boolean wishesFor(int wish) {
            return (wishes & wish) != 0;
        }
    }

    /** What the kinds of PARTIES differ in. */
    private static final class Kinds {
        private static final int TENT = 1;
        private static final int VAN = 2;
        private static final int GREAT = 3;
        private static final int SEASON = 4;
        private static final int[] ABOVE = {-1, 0, 0, VAN, VAN};

        static boolean isUnder(int kind, int top) {
            int k = kind;
            for (int level = 0; level < KINDS && k >= 0 && k < KINDS; level++) {
                if (k == top) {
                    return true;
                }
                k = ABOVE[k];
            }
            return false;
        }

        /** WHY a PARTY doesn't FIT a PITCH; 0: it FITS. */
        static int reason(Party party, Pitch pitch) {
            int plain = reasonOfAll(party, pitch);
            if (plain != 0) {
                return plain;
            }
            if (isUnder(party.kind, VAN)) {
                return reasonOfVans(party, pitch);
            }
            return party.kind == TENT && pitch.shade > 6 ? 4 : 0;
        }

        private static int reasonOfAll(Party party, Pitch pitch) {
            if (party.length > pitch.length) {
                return 1;
            }
            if (party.wishesFor(DOGS) && !pitch.offers(DOGS)) {
                return 2;
            }
            return party.wishesFor(HUSH) && !pitch.offers(HUSH) ? 3 : 0;
        }

        private static int reasonOfVans(Party party, Pitch pitch) {
            if (party.amps > pitch.amps) {
                return 5;
            }
            boolean needsSewer = party.wishesFor(SEWER) || party.kind == SEASON;
            if (needsSewer && !pitch.offers(SEWER)) {
                return 6;
            }
            return party.kind == GREAT && party.length + 3 > pitch.length ? 7 : 0;
        }

        /** PRICE a NIGHT while no TEXT tells it. */
        static int price(Party party) {
            int plain = 10 + party.length;
            int asVan = plain + 2 * party.amps;
            switch (party.kind) {
                case TENT: return plain - 3;
                case VAN: return asVan;
                case GREAT: return 2 * asVan;
                case SEASON: return asVan - asVan / 3;
                default: return plain;
            }
        }
    }

    /** Which NIGHTS are taken on each PITCH, a bit a NIGHT: 0 to 63 low, 64 to 99 high. */
    private static final class Calendar {
        private final long[] low = new long[MOST_PITCHES];
        private final long[] high = new long[MOST_PITCHES];

        static long lowNights(int first, int nights) {
            return below(first + nights) & ~below(first);
        }

        static long highNights(int first, int nights) {
            return below(first + nights - 64) & ~below(first - 64);
        }

        private static long below(int n) {
            if (n <= 0) {
                return 0L;
            }
            return n >= 64 ? -1L : (1L << n) - 1L;
        }

        void empty() {
            for (int p = 0; p < MOST_PITCHES; p++) {
                low[p] = 0L;
                high[p] = 0L;
            }
        }

        boolean isFree(int pitch, long lowNights, long highNights) {
            return (low[pitch] & lowNights) == 0L && (high[pitch] & highNights) == 0L;
        }

        void take(int pitch, long lowNights, long highNights) {
            low[pitch] |= lowNights;
            high[pitch] |= highNights;
        }

        void leave(int pitch, long lowNights, long highNights) {
            low[pitch] &= ~lowNights;
            high[pitch] &= ~highNights;
        }

        /** GAPS; the shifts bring in zeros, so NIGHTS 0 and 99 are none. */
        int lonelyNights(int pitch) {
            long lowAhead = low[pitch] << 1;
            long highAhead = high[pitch] << 1 | low[pitch] >>> 63;
            long lowBehind = low[pitch] >>> 1 | high[pitch] << 63;
            long highBehind = high[pitch] >>> 1;
            return Long.bitCount(lowAhead & lowBehind & ~low[pitch])
                    + Long.bitCount(highAhead & highBehind & ~high[pitch]);
        }
    }

    /** All that an image keeps. */
    private static final class Site {
        private static final int NAMES = 6;

        int today;
        int till;
        int pitchCount;
        int partyCount;
        final Pitch[] pitches = new Pitch[MOST_PITCHES];
        final Party[] parties = new Party[MOST_PARTIES];
        final int[] limits = new int[POSTS];
        final int[] spots = new int[SPOTS];
        final Law[] laws = new Law[LAWS];
        final Washers washers = new Washers();
        private final int[] names = new int[NAMES];

        Site() {
            for (int p = 0; p < MOST_PITCHES; p++) {
                pitches[p] = new Pitch();
            }
            for (int p = 0; p < MOST_PARTIES; p++) {
                parties[p] = new Party();
            }
            for (int post = 0; post < POSTS; post++) {
                limits[post] = 32;
            }
            for (int spot = 0; spot < SPOTS; spot++) {
                spots[spot] = NOBODY;
            }
            for (int l = 0; l < LAWS; l++) {
                laws[l] = new Law();
            }
        }

        void become(Site other) {
            today = other.today;
            till = other.till;
            pitchCount = other.pitchCount;
            partyCount = other.partyCount;
            for (int p = 0; p < pitchCount; p++) {
                pitches[p].become(other.pitches[p]);
            }
            for (int p = 0; p < partyCount; p++) {
                parties[p].become(other.parties[p]);
            }
            System.arraycopy(other.limits, 0, limits, 0, POSTS);
            System.arraycopy(other.spots, 0, spots, 0, SPOTS);
            for (int l = 0; l < LAWS; l++) {
                laws[l].become(other.laws[l]);
            }
            washers.become(other.washers);
        }

        boolean isPitch(int pitch) {
            return pitch >= 0 && pitch < pitchCount;
        }

        boolean isParty(int party) {
            return party >= 0 && party < partyCount;
        }

        boolean isPartyOrNobody(int party) {
            return party == NOBODY || isParty(party);
        }

        boolean isOn(int party) {
            return parties[party].pitch >= 0;
        }

        boolean hasCome(int party) {
            return parties[party].first <= today;
        }

        /** It is ON a PITCH and has COME: neither put nor cancel may touch it. */
        boolean isSettled(int party) {
            return isOn(party) && hasCome(party);
        }

        boolean isHere(int party) {
            return isOn(party) && parties[party].stays(today);
        }

        boolean isWet(int party, int water) {
            return isHere(party) && pitches[parties[party].pitch].height < water;
        }

        int partiesHere() {
            int n = 0;
            for (int party = 0; party < partyCount; party++) {
                if (isHere(party)) {
                    n++;
                }
            }
            return n;
        }

        int partiesWaiting() {
            int n = 0;
            for (int party = 0; party < partyCount; party++) {
                if (parties[party].pitch == WAITS) {
                    n++;
                }
            }
            return n;
        }

        int distance(int a, int b) {
            return Math.abs(pitches[a].x - pitches[b].x) + Math.abs(pitches[a].y - pitches[b].y);
        }

        int holder(int pitch, int night) {
            for (int party = 0; party < partyCount; party++) {
                if (parties[party].pitch == pitch && parties[party].stays(night)) {
                    return party;
                }
            }
            return NOBODY;
        }

        /** The calendar comes to hold all stays but those of a set of PARTIES. */
        void mark(Calendar calendar, int but) {
            calendar.empty();
            for (int party = 0; party < partyCount; party++) {
                Party p = parties[party];
                if (p.pitch >= 0 && (but >> party & 1) == 0) {
                    calendar.take(p.pitch, p.lowNights, p.highNights);
                }
            }
        }

        int loadNow(int post, int hour) {
            int amps = 0;
            for (int party = 0; party < partyCount; party++) {
                Party p = parties[party];
                boolean uses = (p.usedHours >> hour & 1) != 0;
                if (uses && isHere(party) && pitches[p.pitch].post == post) {
                    amps += p.usedAmps;
                }
            }
            return amps;
        }

        int priceNow(int party) {
            if (!laws[PRICE_LAW].stands) {
                return Kinds.price(parties[party]);
            }
            return Math.max(0, Math.min(9999, worthFor(party, laws[PRICE_LAW])));
        }

        int refundNow(int party) {
            if (laws[REFUND_LAW].stands) {
                return Math.max(0, Math.min(100, worthFor(party, laws[REFUND_LAW])));
            }
            int ahead = parties[party].first - today;
            if (ahead >= 7) {
                return 100;
            }
            return ahead >= 1 ? 50 : 0;
        }

        private int worthFor(int party, Law law) {
            Party p = parties[party];
            names[0] = p.length;
            names[1] = p.amps;
            names[2] = p.nights;
            names[3] = p.kind;
            names[4] = p.first - today;
            names[5] = othersOn(party, p.first);
            return law.worth(names);
        }

        private int othersOn(int party, int night) {
            int n = 0;
            for (int other = 0; other < partyCount; other++) {
                if (other != party && isOn(other) && parties[other].stays(night)) {
                    n++;
                }
            }
            return n;
        }
    }

    /** A LAW: its TEXT as code that pushes numbers and NAMES and joins the topmost ones. */
    private static final class Law {
        static final int FIRST_NAME = 10000;
        static final int FIRST_SIGN = 20000;
        static final int NEGATE = FIRST_SIGN;

        boolean stands;
        private int size;
        private final int[] code = new int[MOST_BYTES];
        private final int[] stack = new int[MOST_BYTES];

        void begin(int[] itsCode, int itsSize) {
            stands = true;
            size = Math.min(itsSize, MOST_BYTES);
            System.arraycopy(itsCode, 0, code, 0, size);
        }

        void become(Law other) {
            stands = other.stands;
            size = other.size;
            System.arraycopy(other.code, 0, code, 0, size);
        }

        int worth(int[] names) {
            int top = 0;
            for (int i = 0; i < size; i++) {
                int c = code[i];
                if (c < FIRST_SIGN && top < MOST_BYTES) {
                    stack[top] = operand(c, names);
                    top++;
                } else if (c == NEGATE && top >= 1) {
                    stack[top - 1] = -stack[top - 1];
                } else if (top >= 2) {
                    top--;
                    stack[top - 1] = joined(c - FIRST_SIGN, stack[top - 1], stack[top]);
                }
            }
            return stack[0];
        }

        private static int operand(int c, int[] names) {
            if (c < FIRST_NAME) {
                return c;
            }
            int name = c - FIRST_NAME;
            return name < names.length ? names[name] : 0;
        }

        private static int joined(int sign, int a, int b) {
            switch (sign) {
                case '<': return a < b ? 1 : 0;
                case '=': return a == b ? 1 : 0;
                case '+': return a + b;
                case '-': return a - b;
                case '*': return a * b;
                default: return b == 0 ? 0 : a / b;
            }
        }
    }

    /**
     * THE TAPE, and how a TEXT on it is read into the code of a Law: first it is cut into TOKENS,
     * with an END behind them, then these are read.
     */
    private static final class Tape {
        private static final int END = 0;
        private static final int NUMBER = 1;
        private static final int NAME = 2;
        private static final int BAD = 3;
        private static final int BLANK = 32;
        private static final int MOST_OPEN = 8;
        private static final char[] NAMES = {'l', 'a', 'n', 'k', 'd', 'o'};

        int size;
        int fault;
        int operands;
        int codeSize;
        final int[] code = new int[MOST_BYTES];
        private final int[] bytes = new int[MOST_BYTES];
        private final int[] tokens = new int[MOST_BYTES + 1];
        private final int[] values = new int[MOST_BYTES + 1];
        private final int[] starts = new int[MOST_BYTES + 1];
        private int tokenCount;
        private int at;

        void append(int b) {
            if (size < MOST_BYTES) {
                bytes[size] = b;
                size++;
            }
        }

        /** Whether a TEXT stands here; if not, fault tells where it breaks. */
        boolean readText() {
            cutIntoTokens();
            fault = 0;
            operands = 0;
            codeSize = 0;
            at = 0;
            return readCompared(0) && (tokens[at] == END || isFault());
        }

        private void cutIntoTokens() {
            tokenCount = 0;
            int i = 0;
            while (i < size) {
                int end = i + 1;
                if (isDigit(bytes[i])) {
                    end = cutNumber(i);
                } else if (isLetter(bytes[i])) {
                    end = cutWord(i);
                } else if (bytes[i] != BLANK) {
                    addToken(isSign(bytes[i]) ? bytes[i] : BAD, 0, i);
                }
                i = Math.max(end, i + 1);
            }
            addToken(END, 0, size);
        }

        private void addToken(int token, int value, int start) {
            if (tokenCount <= MOST_BYTES) {
                tokens[tokenCount] = token;
                values[tokenCount] = value;
                starts[tokenCount] = start;
                tokenCount++;
            }
        }

        private int cutNumber(int start) {
            int value = 0;
            int i = start;
            while (i < size && isDigit(bytes[i])) {
                value = Math.min(10000, 10 * value + bytes[i] - '0');
                i++;
            }
            addToken(value > 9999 ? BAD : NUMBER, value, start);
            return i;
        }

        private int cutWord(int start) {
            int i = start;
            while (i < size && isLetter(bytes[i])) {
                i++;
            }
            int name = nameOf(bytes[start]);
            addToken(i == start + 1 && name >= 0 ? NAME : BAD, name, start);
            return i;
        }

        private static int nameOf(int letter) {
            for (int name = 0; name < NAMES.length; name++) {
                if (NAMES[name] == letter) {
                    return name;
                }
            }
            return -1;
        }

        private static boolean isDigit(int b) {
            return b >= '0' && b <= '9';
        }

        private static boolean isLetter(int b) {
            return b >= 'a' && b <= 'z';
        }

        private static boolean isSign(int b) {
            switch (b) {
                case '<': case '=': case '+': case '-':
                case '*': case '/': case '(': case ')': return true;
                default: return false;
            }
        }

        private boolean isAt(int one, int other) {
            return tokens[at] == one || tokens[at] == other;
        }

        /** The TOKEN here, which is left; the END is never left. */
        private int passToken() {
            int token = tokens[at];
            if (token != END && at < MOST_BYTES) {
                at++;
            }
            return token;
        }

        private boolean isFault() {
            fault = starts[at];
            return false;
        }

        private boolean emit(int c) {
            if (codeSize < MOST_BYTES) {
                code[codeSize] = c;
                codeSize++;
            }
            return true;
        }

        /** open: how many ( and - ahead of a ONE are open here, as in all that follow. */
        private boolean readCompared(int open) {
            if (!readSum(open)) {
                return false;
            }
            if (!isAt('<', '=')) {
                return true;
            }
            int sign = passToken();
            return readSum(open) && emit(Law.FIRST_SIGN + sign);
        }

        private boolean readSum(int open) {
            boolean fine = readTerm(open);
            for (int i = 0; i < MOST_BYTES && fine && isAt('+', '-'); i++) {
                int sign = passToken();
                fine = readTerm(open) && emit(Law.FIRST_SIGN + sign);
            }
            return fine;
        }

        private boolean readTerm(int open) {
            boolean fine = readOne(open);
            for (int i = 0; i < MOST_BYTES && fine && isAt('*', '/'); i++) {
                int sign = passToken();
                fine = readOne(open) && emit(Law.FIRST_SIGN + sign);
            }
            return fine;
        }

        private boolean readOne(int open) {
            if (isAt(NUMBER, NAME)) {
                int value = values[at];
                operands++;
                return emit(passToken() == NUMBER ? value : Law.FIRST_NAME + value);
            }
            if (!isAt('(', '-') || open >= MOST_OPEN) {
                return isFault();
            }
            if (passToken() == '-') {
                return readOne(open + 1) && emit(Law.NEGATE);
            }
            return readCompared(open + 1) && readClosing();
        }

        private boolean readClosing() {
            if (tokens[at] != ')') {
                return isFault();
            }
            passToken();
            return true;
        }
    }

    /**
     * THE PLAN: all ways are tried, the first ones (by PARTIES, each the least PITCH) first, but
     * for those of which it can be seen that they can't be better than the best one so far.
     */
    private static final class Planner {
        private final Site site;
        private final Calendar calendar;
        private int size;
        private final int[] members = new int[MOST_PLANNED];
        private final int[] open = new int[MOST_PLANNED];
        private final int[] mostOn = new int[MOST_PLANNED + 1];
        private final int[] mostFilled = new int[MOST_PLANNED + 1];
        private final int[][] wayToOthers = new int[MOST_PLANNED][MOST_PITCHES];
        private final int[][] bonds = new int[MOST_PLANNED][MOST_PLANNED];
        private final int[] places = new int[MOST_PLANNED];
        private final int[] best = new int[MOST_PLANNED];
        private int bestOn;
        private int bestGaps;
        private int bestFar;

        Planner(Site itsSite, Calendar itsCalendar) {
            site = itsSite;
            calendar = itsCalendar;
        }

        int make(int set) {
            gather(set);
            site.mark(calendar, set);
            for (int i = 0; i < size; i++) {
                lookAt(i, set);
            }
            bound();
            bestOn = -1;
            tryFrom(0, 0, 0, 0);
            for (int i = 0; i < size; i++) {
                site.parties[members[i]].pitch = best[i];
            }
            return bestOn;
        }

        private void gather(int set) {
            size = 0;
            for (int party = 0; party < site.partyCount; party++) {
                if ((set >> party & 1) != 0 && size < MOST_PLANNED) {
                    members[size] = party;
                    size++;
                }
            }
        }

        /** Which PITCHES are open to a member, and what others bind it to there. */
        private void lookAt(int i, int set) {
            Party p = site.parties[members[i]];
            open[i] = 0;
            for (int pitch = 0; pitch < site.pitchCount; pitch++) {
                boolean fits = Kinds.reason(p, site.pitches[pitch]) == 0;
                if (fits && calendar.isFree(pitch, p.lowNights, p.highNights)) {
                    open[i] |= 1 << pitch;
                }
                wayToOthers[i][pitch] = 0;
            }
            for (int other = 0; other < site.partyCount; other++) {
                if ((set >> other & 1) == 0 && site.isOn(other)) {
                    addWays(i, other);
                }
            }
            for (int j = 0; j < size; j++) {
                bonds[i][j] = wishesBetween(members[i], members[j]);
            }
        }

        private void addWays(int i, int other) {
            int wishes = wishesBetween(members[i], other);
            for (int pitch = 0; wishes > 0 && pitch < site.pitchCount; pitch++) {
                wayToOthers[i][pitch] += wishes * site.distance(pitch, site.parties[other].pitch);
            }
        }

        private int wishesBetween(int a, int b) {
            return (site.parties[a].near == b ? 1 : 0) + (site.parties[b].near == a ? 1 : 0);
        }

        /**
         * From each member on, how many can come ON a PITCH at most, and how many GAPS they can
         * fill: only a stay of one NIGHT can fill one, since NIGHTS that are FREE side by side
         * are none.
         */
        private void bound() {
            mostOn[size] = 0;
            mostFilled[size] = 0;
            for (int i = size - 1; i >= 0; i--) {
                boolean isShort = site.parties[members[i]].nights == 1;
                mostOn[i] = mostOn[i + 1] + (open[i] != 0 ? 1 : 0);
                mostFilled[i] = mostFilled[i + 1] + (open[i] != 0 && isShort ? 1 : 0);
            }
        }

        private boolean canBeat(int i, int on, int gaps, int far) {
            int reach = on + mostOn[i];
            if (reach != bestOn) {
                return reach > bestOn;
            }
            int least = gaps - mostFilled[i];
            if (least != bestGaps) {
                return least < bestGaps;
            }
            return far < bestFar;
        }

        /** gaps are told as how many more there are than with all members away. */
        private void tryFrom(int i, int on, int gaps, int far) {
            if (!canBeat(i, on, gaps, far)) {
                return;
            }
            if (i >= size) {
                remember(on, gaps, far);
                return;
            }
            Party p = site.parties[members[i]];
            for (int pitch = 0; pitch < site.pitchCount; pitch++) {
                boolean isOpen = (open[i] >> pitch & 1) != 0;
                if (isOpen && calendar.isFree(pitch, p.lowNights, p.highNights)) {
                    int before = calendar.lonelyNights(pitch);
                    calendar.take(pitch, p.lowNights, p.highNights);
                    int more = calendar.lonelyNights(pitch) - before;
                    places[i] = pitch;
                    tryFrom(i + 1, on + 1, gaps + more, far + wayOf(i));
                    calendar.leave(pitch, p.lowNights, p.highNights);
                }
            }
            places[i] = WAITS;
            tryFrom(i + 1, on, gaps, far);
        }

        private int wayOf(int i) {
            int way = wayToOthers[i][places[i]];
            for (int j = 0; j < i; j++) {
                if (bonds[i][j] != 0 && places[j] != WAITS) {
                    way += bonds[i][j] * site.distance(places[i], places[j]);
                }
            }
            return way;
        }

        private void remember(int on, int gaps, int far) {
            bestOn = on;
            bestGaps = gaps;
            bestFar = far;
            for (int i = 0; i < size; i++) {
                best[i] = places[i];
            }
        }
    }

    /** THE RESCUE, by ways that grow through the PITCHES already given. */
    private static final class Rescuer {
        private final Site site;
        private int size;
        private final int[] wets = new int[MOST_PARTIES];
        private final int[] open = new int[MOST_PARTIES];
        private final int[] goals = new int[MOST_PARTIES];
        private final int[] givenTo = new int[MOST_PITCHES];
        private int seen;

        Rescuer(Site itsSite) {
            site = itsSite;
        }

        /** How many are moved; goalOf tells where each goes. */
        int work(int water) {
            gather(water);
            int all = mostFrom(0, 0);
            int left = all;
            int given = 0;
            for (int i = 0; i < size; i++) {
                goals[i] = leastGoal(i, given, left);
                if (goals[i] >= 0) {
                    given |= 1 << goals[i];
                    left--;
                }
            }
            return all;
        }

        int goalOf(int party) {
            for (int i = 0; i < size; i++) {
                if (wets[i] == party) {
                    return goals[i];
                }
            }
            return -1;
        }

        private void gather(int water) {
            int dry = dryPitches(water);
            size = 0;
            for (int party = 0; party < site.partyCount; party++) {
                if (site.isWet(party, water)) {
                    wets[size] = party;
                    open[size] = fitting(party, dry);
                    size++;
                }
            }
        }

        private int dryPitches(int water) {
            int set = 0;
            for (int pitch = 0; pitch < site.pitchCount; pitch++) {
                boolean isHigh = site.pitches[pitch].height >= water;
                if (isHigh && site.holder(pitch, site.today) == NOBODY) {
                    set |= 1 << pitch;
                }
            }
            return set;
        }

        private int fitting(int party, int pitches) {
            int set = 0;
            for (int pitch = 0; pitch < site.pitchCount; pitch++) {
                boolean isMeant = (pitches >> pitch & 1) != 0;
                if (isMeant && Kinds.reason(site.parties[party], site.pitches[pitch]) == 0) {
                    set |= 1 << pitch;
                }
            }
            return set;
        }

        /** The least PITCH with which as many as can be are still moved; -1: none. */
        private int leastGoal(int i, int given, int left) {
            for (int pitch = 0; pitch < site.pitchCount; pitch++) {
                boolean isOpen = ((open[i] & ~given) >> pitch & 1) != 0;
                if (isOpen && 1 + mostFrom(i + 1, given | 1 << pitch) == left) {
                    return pitch;
                }
            }
            return -1;
        }

        /** How many can be moved, from the i-th WET one on, but to the PITCHES given. */
        private int mostFrom(int i, int given) {
            for (int pitch = 0; pitch < MOST_PITCHES; pitch++) {
                givenTo[pitch] = NOBODY;
            }
            int n = 0;
            for (int j = i; j < size; j++) {
                seen = given;
                if (finds(j, 0)) {
                    n++;
                }
            }
            return n;
        }

        /** Each level has seen one PITCH more, so no way goes deeper than there are PITCHES. */
        private boolean finds(int i, int depth) {
            for (int pitch = 0; depth <= MOST_PITCHES && pitch < site.pitchCount; pitch++) {
                if (((open[i] & ~seen) >> pitch & 1) != 0) {
                    seen |= 1 << pitch;
                    if (givenTo[pitch] == NOBODY || finds(givenTo[pitch], depth + 1)) {
                        givenTo[pitch] = i;
                        return true;
                    }
                }
            }
            return false;
        }
    }

    /** WASHERS, held in the order in which they are served. */
    private static final class Washers {
        int size;
        int longestWait;
        int allDone;
        int waiting;
        private final int[] minutes = new int[MOST_WASHERS];
        private final int[] takes = new int[MOST_WASHERS];
        private final int[] freeAt = new int[MOST_SHOWERS];

        void insert(int minute, int itTakes) {
            if (size >= MOST_WASHERS) {
                return;
            }
            int i = size;
            for (; i > 0 && minutes[i - 1] > minute; i--) {
                minutes[i] = minutes[i - 1];
                takes[i] = takes[i - 1];
            }
            minutes[i] = minute;
            takes[i] = itTakes;
            size++;
        }

        void become(Washers other) {
            size = other.size;
            System.arraycopy(other.minutes, 0, minutes, 0, size);
            System.arraycopy(other.takes, 0, takes, 0, size);
        }

        void serve(int showers) {
            longestWait = 0;
            allDone = 0;
            waiting = 0;
            for (int s = 0; s < MOST_SHOWERS; s++) {
                freeAt[s] = 0;
            }
            for (int i = 0; i < size; i++) {
                int s = firstFree(showers);
                int begins = Math.max(minutes[i], freeAt[s]);
                int waits = begins - minutes[i];
                freeAt[s] = begins + takes[i];
                longestWait = Math.max(longestWait, waits);
                allDone = Math.max(allDone, freeAt[s]);
                waiting += waits > 0 ? 1 : 0;
            }
        }

        private int firstFree(int showers) {
            int first = 0;
            for (int s = 1; s < showers && s < MOST_SHOWERS; s++) {
                if (freeAt[s] < freeAt[first]) {
                    first = s;
                }
            }
            return first;
        }
    }

    /** A SHEET; with 0 bits it is MISSING. */
    private static final class Sheet {
        int bits;
        int size;
        final int[] numbers = new int[MOST_NUMBERS];

        void begin(int itsBits, int itsSize) {
            bits = itsBits;
            size = itsSize;
            for (int i = 0; i < MOST_NUMBERS; i++) {
                numbers[i] = 0;
            }
        }

        boolean isMissing() {
            return bits == 0;
        }

        boolean hasRange(int from, int n) {
            return from >= 0 && n >= 0 && from <= size && n <= size - from;
        }

        void change(int i, int v) {
            if (i < 0 || i >= MOST_NUMBERS) {
                return;
            }
            numbers[i] = bits == 32 ? v : v & (1 << bits) - 1;
        }
    }
}
