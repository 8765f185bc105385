/** Belled cows that graze round a hill, and the pails that their bells fill. */
public final class BellMilk {
    private static final int LOW = -1000001;
    private static final int BEYOND = 0;
    private static final int FULL = 1;
    private static final int WRONG_KIND = 2;
    private static final int NONE = 3;
    private static final int STATE = 4;
    private static final int MISSING = 5;
    private static final int SIZE = 6;
    private static final int FINDINGS = 7;

    private static final int PASTURES = 12;
    private static final int TONES = 12;
    private static final int MOST_COWS = 8;
    private static final int SPOTS = 10;
    private static final int SHEETS = 4;
    private static final int MOST_NUMBERS = 40;
    private static final int MOST_BYTES = 120;

    private static final int MOST_GRASS = 99;
    private static final int MOST_GROWS = 20;
    private static final int MOST_THUNDER = 99;
    private static final int MOST_MILK = 99999;
    private static final int MOST_SWINGS = 9;
    private static final int MOST_WEAR = 999;
    private static final int MOST_RUNG = 9999;
    private static final int MOST_HOUR = 99999;
    private static final int MILKING_HOURS = 6;
    private static final int NOBODY = -1;

    private static final int COW = 0;
    private static final int CALF = 1;
    private static final int ALTO = 2;
    private static final int BRIDE = 3;
    private static final int PASS = 4;
    private static final int CRACKED = 5;
    private static final int KID = 6;
    private static final int KINDS = 7;

    /** By KIND: how much GRASS it eats in an HOUR. */
    private static final int[] EATS = {5, 2, 5, 3, 0, 5, 2};
    /** By KIND: the one that it stands under (NOBODY above COW). */
    private static final int[] ABOVE = {NOBODY, COW, COW, ALTO, BRIDE, COW, CALF};
    /** By what change() names: the greatest value. */
    private static final int[] MOST_OF = {
        KINDS - 1, PASTURES - 1, TONES - 1, MOST_SWINGS, MOST_WEAR, MOST_RUNG, 1
    };

    private static final int WHAT_PASTURE = 1;
    private static final int WHAT_RUNG = 5;

    /** What goes on round the hill. */
    private final Herd herd;
    /** Where hours that only might be go by; each call begins it anew. */
    private final Herd trial;
    private final Herd kept;
    private boolean isKept;

    private final Tape tape;

    private final int[][] sheetNumbers;
    private final int[] sheetSize;
    /** 0 is a sheet that is MISSING. */
    private final int[] sheetBits;

    private final int[] told;
    private final int[] saved;

    public BellMilk() {
        herd = new Herd();
        trial = new Herd();
        kept = new Herd();
        tape = new Tape();
        sheetNumbers = new int[SHEETS][MOST_NUMBERS];
        sheetSize = new int[SHEETS];
        sheetBits = new int[SHEETS];
        told = new int[FINDINGS];
        saved = new int[MOST_COWS];
    }

    // ---- pastures, weather, cows

    public int grass(int pasture, int v) {
        if (!isPasture(pasture) || !isUpTo(v, MOST_GRASS)) {
            return tell(BEYOND);
        }
        int was = herd.grass[pasture];
        herd.grass[pasture] = v;
        return was;
    }

    public int pasture(int pasture, int what) {
        if (!isPasture(pasture) || !isUpTo(what, 1)) {
            return tell(BEYOND);
        }
        return what == 0 ? herd.grass[pasture] : herd.cowsOn(pasture);
    }

    public int weather(int what, int v) {
        if (!isUpTo(what, 1) || !isUpTo(v, what == 0 ? MOST_GROWS : MOST_THUNDER)) {
            return tell(BEYOND);
        }
        int was;
        if (what == 0) {
            was = herd.grows;
            herd.grows = v;
        } else {
            was = herd.thunder;
            herd.thunder = v;
        }
        return was;
    }

    public int pail(int tone) {
        if (!isTone(tone)) {
            return tell(BEYOND);
        }
        return herd.pails[tone];
    }

    public int pour(int tone) {
        if (!isTone(tone)) {
            return tell(BEYOND);
        }
        int had = herd.pails[tone];
        herd.pails[tone] = 0;
        return had;
    }

    public int cow(int kind, int pasture) {
        if (!isKind(kind) || !isPasture(pasture)) {
            return tell(BEYOND);
        }
        if (herd.cows >= MOST_COWS) {
            return tell(FULL);
        }
        return herd.addCow(kind, pasture);
    }

    public int of(int cow, int what) {
        if (!isCow(cow) || !isUpTo(what, 10)) {
            return tell(BEYOND);
        }
        switch (what) {
            case 7:
                return herd.rings(cow);
            case 8:
                return herd.eats(cow);
            case 9:
                return herd.gives(cow);
            case 10:
                return herd.beside(cow);
            default:
                return herd.trait(what)[cow];
        }
    }

    public int change(int cow, int what, int v) {
        if (!isCow(cow) || what < 0 || what >= MOST_OF.length || !isUpTo(v, MOST_OF[what])) {
            return tell(BEYOND);
        }
        int[] trait = herd.trait(what);
        int was = trait[cow];
        trait[cow] = v;
        return was;
    }

    // ---- hours

    public int go(int n) {
        if (n < 1 || n > 60) {
            return tell(BEYOND);
        }
        if (herd.hour + n > MOST_HOUR) {
            return tell(STATE);
        }
        herd.passHours(n);
        return herd.milk();
    }

    public int now(int what) {
        switch (what) {
            case 0:
                return herd.hour;
            case 1:
                return herd.milk();
            case 2:
                return herd.rungOfAll();
            case 3:
                return herd.muffledCows();
            case 4:
                return herd.grassOfAll();
            case 5:
                return herd.pasturesWithCows();
            case 6:
                return herd.pailsWithMilk();
            default:
                return tell(BEYOND);
        }
    }

    // ---- what will be

    public int ahead(int tone, int n) {
        if (!isTone(tone) || !isUpTo(n, 100)) {
            return tell(BEYOND);
        }
        beginTrial();
        trial.passHours(n);
        return trial.pails[tone];
    }

    public int where(int cow, int what, int n) {
        if (!isCow(cow) || (what != WHAT_PASTURE && what != WHAT_RUNG) || !isUpTo(n, 100)) {
            return tell(BEYOND);
        }
        beginTrial();
        trial.passHours(n);
        return trial.trait(what)[cow];
    }

    public int when(int tone, int v) {
        if (!isTone(tone) || !isUpTo(v, MOST_MILK)) {
            return tell(BEYOND);
        }
        beginTrial();
        for (int h = 0; h <= 200; h++) {
            if (trial.pails[tone] >= v) {
                return h;
            }
            trial.passHour();
        }
        return tell(NONE);
    }

    public int meet(int a, int b) {
        if (!isCow(a) || !isCow(b) || a == b) {
            return tell(BEYOND);
        }
        beginTrial();
        for (int h = 0; h <= 200; h++) {
            if (trial.place[a] == trial.place[b]) {
                return h;
            }
            trial.passHour();
        }
        return tell(NONE);
    }

    public int bare() {
        beginTrial();
        for (int h = 0; h <= 100; h++) {
            if (trial.hasBarePasture()) {
                return h;
            }
            trial.passHour();
        }
        return tell(NONE);
    }

    // ---- where, with what

    public int graze(int cow, int n) {
        if (!isCow(cow) || !isUpTo(n, 40)) {
            return tell(BEYOND);
        }
        return traitForMostMilk(cow, WHAT_PASTURE, n);
    }

    public int toneFor(int cow, int pail, int n) {
        if (!isCow(cow) || !isTone(pail) || !isUpTo(n, 40)) {
            return tell(BEYOND);
        }
        int best = 0;
        int most = -1;
        for (int t = 0; t < TONES; t++) {
            beginTrial();
            trial.tone[cow] = t;
            trial.passHours(n);
            if (trial.pails[pail] > most) {
                most = trial.pails[pail];
                best = t;
            }
        }
        return best;
    }

    public int kindFor(int cow, int n) {
        if (!isCow(cow) || !isUpTo(n, 40)) {
            return tell(BEYOND);
        }
        return traitForMostMilk(cow, 0, n);
    }

    public int swingsFor(int cow, int v, int n) {
        if (!isCow(cow) || !isUpTo(v, 9999) || !isUpTo(n, 40)) {
            return tell(BEYOND);
        }
        for (int swings = 0; swings <= MOST_SWINGS; swings++) {
            beginTrial();
            trial.swings[cow] = swings;
            trial.passHours(n);
            if (trial.pails[trial.tone[cow]] >= v) {
                return swings;
            }
        }
        return tell(NONE);
    }

    public int growsFor(int n) {
        if (!isUpTo(n, 40)) {
            return tell(BEYOND);
        }
        for (int grows = 0; grows <= MOST_GROWS; grows++) {
            if (allStay(grows, n)) {
                return grows;
            }
        }
        return tell(NONE);
    }

    public int thunderFor(int v, int n) {
        if (!isUpTo(v, 9999) || !isUpTo(n, 40)) {
            return tell(BEYOND);
        }
        for (int tens = MOST_THUNDER / 10 * 10; tens >= 0; tens -= 10) {
            // Bells ring by the tens of THUNDER, and the ones only turn milk:
            // where the least with the same tens leaves too little, all of them do.
            if (milkUnder(tens, n) >= v) {
                int ones = 9;
                while (ones > 0 && milkUnder(tens + ones, n) < v) {
                    ones--;
                }
                return tens + ones;
            }
        }
        return tell(NONE);
    }

    public int pair(int tone) {
        if (!isTone(tone)) {
            return tell(BEYOND);
        }
        for (int a = 0; a < herd.cows; a++) {
            for (int b = a + 1; b < herd.cows; b++) {
                if (herd.tone[a] != herd.tone[b] && herd.thirdTone(a, b) == tone) {
                    return 8 * a + b;
                }
            }
        }
        return tell(NONE);
    }

    // ---- thin pails

    public int muffle(int tone, int v, int n) {
        if (!isTone(tone) || !isUpTo(v, 9999) || !isUpTo(n, 18)) {
            return tell(BEYOND);
        }
        // A MUFFLED cow eats and wanders as before, so what a PAIL lacks by it
        // is its own milk alone, and a set lacks the sum of its cows.
        int gained = gainedWithout(NOBODY, tone, n);
        for (int c = 0; c < herd.cows; c++) {
            saved[c] = gained - gainedWithout(c, tone, n);
        }
        int set = fewestSaving(herd.pails[tone] + gained - v);
        return set == NOBODY ? tell(NONE) : set;
    }

    public int fits(int s, int tone) {
        if (!isSheet(s)) {
            return tell(BEYOND);
        }
        if (sheetBits[s] == 0) {
            return tell(MISSING);
        }
        if (!isTone(tone)) {
            return tell(BEYOND);
        }
        int set = 0;
        for (int c = 0; c < herd.cows; c++) {
            beginTrial();
            trial.muffled[c] = 1 - trial.muffled[c];
            if (trialGoesAsTold(s, trial.pails, tone, MILKING_HOURS)) {
                set |= 1 << c;
            }
        }
        return set;
    }

    public int kinds(int s, int cow) {
        if (!isSheet(s)) {
            return tell(BEYOND);
        }
        if (sheetBits[s] == 0) {
            return tell(MISSING);
        }
        if (!isCow(cow)) {
            return tell(BEYOND);
        }
        int set = 0;
        for (int k = 0; k < KINDS; k++) {
            beginTrial();
            trial.kind[cow] = k;
            if (trialGoesAsTold(s, trial.rung, cow, 1)) {
                set |= 1 << k;
            }
        }
        return set;
    }

    // ---- storms

    public int storms(int n) {
        if (n < 1 || n > 20) {
            return tell(BEYOND);
        }
        if (herd.hour + n > MOST_HOUR) {
            return tell(STATE);
        }
        for (int i = 0; i < n; i++) {
            herd.thunder = herd.draw() % 100;
            int struck = herd.draw() % 8;
            if (struck < herd.cows) {
                herd.wander(struck);
            }
            herd.passHour();
        }
        return herd.milk();
    }

    public long odds(int n, int what) {
        if (!isUpTo(n, 18) || !isUpTo(what, 1)) {
            return tell(BEYOND);
        }
        int above = herd.cows - Integer.bitCount(herd.muffledCows());
        int below = 8;
        for (int i = 0; i < 3 && above % 2 == 0; i++) {
            above /= 2;
            below /= 2;
        }
        return power(what == 0 ? above : below, n);
    }

    public int seed(int v) {
        int was = herd.z;
        herd.z = v;
        return was;
    }

    // ---- texts

    public int feed(int bytes, int n) {
        if (n < 1 || n > 4) {
            return tell(BEYOND);
        }
        if (tape.length + n > MOST_BYTES) {
            return tell(FULL);
        }
        for (int i = n - 1; i >= 0; i--) {
            tape.append(bytes >>> (8 * i) & 255);
        }
        return tape.length;
    }

    public int wipe() {
        int had = tape.length;
        tape.length = 0;
        return had;
    }

    public int text() {
        beginTrial();
        boolean isText = tape.readInto(trial);
        tape.length = 0;
        if (!isText) {
            return -1 - tape.begin;
        }
        herd.become(trial);
        return tape.items;
    }

    // ---- spots, sheets

    public int hold(int spot, int cow) {
        if (!isUpTo(spot, SPOTS - 1) || (cow != NOBODY && !isCow(cow))) {
            return tell(BEYOND);
        }
        herd.spots[spot] = cow;
        return 1;
    }

    public int as(int spot, int kind) {
        if (!isUpTo(spot, SPOTS - 1) || !isKind(kind)) {
            return tell(BEYOND);
        }
        int cow = herd.spots[spot];
        if (cow == NOBODY) {
            return tell(MISSING);
        }
        if (!isUnder(herd.kind[cow], kind)) {
            return tell(WRONG_KIND);
        }
        return cow;
    }

    public int sheet(int s, int bits, int n) {
        if (!isSheet(s) || (bits != 0 && bits != 8 && bits != 16 && bits != 32)) {
            return tell(BEYOND);
        }
        if (n < 0) {
            return tell(SIZE);
        }
        if (n > MOST_NUMBERS) {
            return tell(BEYOND);
        }
        sheetBits[s] = bits;
        sheetSize[s] = bits == 0 ? 0 : n;
        for (int i = 0; i < MOST_NUMBERS; i++) {
            sheetNumbers[s][i] = 0;
        }
        return sheetSize[s];
    }

    public int write(int s, int i, int v) {
        if (!isSheet(s)) {
            return tell(BEYOND);
        }
        if (sheetBits[s] == 0) {
            return tell(MISSING);
        }
        if (i < 0 || i >= sheetSize[s]) {
            return tell(BEYOND);
        }
        sheetNumbers[s][i] = lowestBits(v, sheetBits[s]);
        return 1;
    }

    public int copy(int s, int from, int t, int to, int n) {
        if (!isSheet(s) || !isSheet(t)) {
            return tell(BEYOND);
        }
        if (sheetBits[s] == 0 || sheetBits[t] == 0) {
            return tell(MISSING);
        }
        if (sheetBits[s] != sheetBits[t]) {
            return tell(WRONG_KIND);
        }
        if (!hasNumbers(s, from, n) || !hasNumbers(t, to, n)) {
            return tell(BEYOND);
        }
        System.arraycopy(sheetNumbers[s], from, sheetNumbers[t], to, n);
        return n;
    }

    public int load(int s) {
        if (!isSheet(s)) {
            return tell(BEYOND);
        }
        if (sheetBits[s] == 0) {
            return tell(MISSING);
        }
        int came = 0;
        for (int i = 0; i < sheetSize[s] && i < PASTURES; i++) {
            if (!isUpTo(sheetNumbers[s][i], MOST_GRASS)) {
                break;
            }
            herd.grass[i] = sheetNumbers[s][i];
            came++;
        }
        return came;
    }

    public int judge(int s) {
        if (!isSheet(s)) {
            return tell(BEYOND);
        }
        if (sheetBits[s] == 0) {
            return tell(MISSING);
        }
        for (int i = 0; i < sheetSize[s]; i++) {
            if (i >= TONES || sheetNumbers[s][i] != herd.pails[i]) {
                return 1 + i;
            }
        }
        return 0;
    }

    // ---- images

    public int image() {
        kept.become(herd);
        isKept = true;
        return 1;
    }

    public int undo() {
        if (!isKept) {
            return tell(NONE);
        }
        herd.become(kept);
        return herd.hour;
    }

    public int tear() {
        int was = isKept ? 1 : 0;
        isKept = false;
        return was;
    }

    public int count(int what) {
        switch (what) {
            case 0:
                return herd.hour;
            case 1:
                return herd.cows;
            case 2:
                return Integer.bitCount(herd.muffledCows());
            case 3:
                return herd.rungOfAll();
            case 4:
                return herd.milk();
            case 5:
                return tape.length;
            case 6:
                return herd.z;
            case 7:
                return herd.spotsHolding();
            default:
                return tell(BEYOND);
        }
    }

    public int status(int which) {
        if (which < -1 || which >= FINDINGS) {
            return tell(BEYOND);
        }
        if (which >= 0) {
            return told[which];
        }
        int all = 0;
        for (int i = 0; i < FINDINGS; i++) {
            all += told[i];
        }
        return all;
    }

    // ---- what the calls share

    private int tell(int finding) {
        told[finding]++;
        return LOW - finding;
    }

    private static boolean isUpTo(int v, int most) {
        return v >= 0 && v <= most;
    }

    private static boolean isPasture(int pasture) {
        return isUpTo(pasture, PASTURES - 1);
    }

    private static boolean isTone(int tone) {
        return isUpTo(tone, TONES - 1);
    }

    private static boolean isKind(int kind) {
        return isUpTo(kind, KINDS - 1);
    }

    private static boolean isSheet(int s) {
        return isUpTo(s, SHEETS - 1);
    }

    private boolean isCow(int cow) {
        return cow >= 0 && cow < herd.cows;
    }

    /** True if a kind is the other one, or under it. */
    private static boolean isUnder(int kind, int other) {
        int k = kind;
        for (int i = 0; i < KINDS && k != NOBODY; i++) {
            if (k == other) {
                return true;
            }
            k = ABOVE[k];
        }
        return false;
    }

    private boolean hasNumbers(int s, int from, int n) {
        // A difference, as the sum of the two could wrap around.
        return from >= 0 && n >= 0 && n <= sheetSize[s] - from;
    }

    private static int lowestBits(int v, int bits) {
        switch (bits) {
            case 8:
                return (byte) v;
            case 16:
                return (short) v;
            default:
                return v;
        }
    }

    private static long power(int base, int n) {
        long product = 1;
        for (int i = 0; i < n; i++) {
            product *= base;
        }
        return product;
    }

    private void beginTrial() {
        trial.become(herd);
    }

    private int traitForMostMilk(int cow, int what, int n) {
        int best = 0;
        int most = -1;
        for (int v = 0; v <= MOST_OF[what]; v++) {
            beginTrial();
            trial.trait(what)[cow] = v;
            trial.passHours(n);
            int milk = trial.milk();
            if (milk > most) {
                most = milk;
                best = v;
            }
        }
        return best;
    }

    private boolean allStay(int grows, int n) {
        beginTrial();
        trial.grows = grows;
        for (int h = 0; h < n; h++) {
            if (trial.passHour()) {
                return false;
            }
        }
        return true;
    }

    private int milkUnder(int thunder, int n) {
        beginTrial();
        trial.thunder = thunder;
        trial.passHours(n);
        return trial.milk();
    }

    private int gainedWithout(int cow, int tone, int n) {
        beginTrial();
        // From 0 on no PAIL comes to be full in so few HOURS, so nothing is lost.
        trial.pails[tone] = 0;
        if (cow != NOBODY) {
            trial.muffled[cow] = 1;
        }
        trial.passHours(n);
        return trial.pails[tone];
    }

    /** The least of the smallest sets that save so much, or NOBODY. */
    private int fewestSaving(int need) {
        int best = NOBODY;
        int fewest = MOST_COWS + 1;
        for (int set = 0; set < 1 << herd.cows; set++) {
            int size = Integer.bitCount(set);
            if (size < fewest && savedBy(set) >= need) {
                fewest = size;
                best = set;
            }
        }
        return best;
    }

    private int savedBy(int set) {
        int sum = 0;
        for (int c = 0; c < MOST_COWS; c++) {
            if ((set >> c & 1) == 1) {
                sum += saved[c];
            }
        }
        return sum;
    }

    /** True if row[i], now and behind each so many HOURS of the trial, is as the sheet tells. */
    private boolean trialGoesAsTold(int s, int[] row, int i, int hours) {
        for (int k = 0; k < sheetSize[s]; k++) {
            if (k > 0) {
                trial.passHours(hours);
            }
            int due = sheetNumbers[s][k];
            if (due != -1 && row[i] != due) {
                return false;
            }
        }
        return true;
    }

    /** Pastures, weather, pails, cows, spots and the draws: all that an image keeps. */
    private static final class Herd {
        final int[] grass = new int[PASTURES];
        final int[] pails = new int[TONES];
        final int[] spots = new int[SPOTS];
        int grows = 2;
        int thunder = 0;
        int hour = 0;
        int z = 1;

        int cows = 0;
        final int[] kind = new int[MOST_COWS];
        final int[] place = new int[MOST_COWS];
        final int[] tone = new int[MOST_COWS];
        final int[] swings = new int[MOST_COWS];
        final int[] wear = new int[MOST_COWS];
        final int[] rung = new int[MOST_COWS];
        final int[] muffled = new int[MOST_COWS];

        Herd() {
            for (int p = 0; p < PASTURES; p++) {
                grass[p] = 50;
            }
            for (int s = 0; s < SPOTS; s++) {
                spots[s] = NOBODY;
            }
        }

        void become(Herd other) {
            System.arraycopy(other.grass, 0, grass, 0, PASTURES);
            System.arraycopy(other.pails, 0, pails, 0, TONES);
            System.arraycopy(other.spots, 0, spots, 0, SPOTS);
            grows = other.grows;
            thunder = other.thunder;
            hour = other.hour;
            z = other.z;
            cows = other.cows;
            System.arraycopy(other.kind, 0, kind, 0, MOST_COWS);
            System.arraycopy(other.place, 0, place, 0, MOST_COWS);
            System.arraycopy(other.tone, 0, tone, 0, MOST_COWS);
            System.arraycopy(other.swings, 0, swings, 0, MOST_COWS);
            System.arraycopy(other.wear, 0, wear, 0, MOST_COWS);
            System.arraycopy(other.rung, 0, rung, 0, MOST_COWS);
            System.arraycopy(other.muffled, 0, muffled, 0, MOST_COWS);
        }

        /** The caller has looked that there is room. */
        int addCow(int itsKind, int pasture) {
            int c = cows;
            kind[c] = itsKind;
            place[c] = pasture;
            tone[c] = 0;
            swings[c] = 3;
            wear[c] = 0;
            rung[c] = 0;
            muffled[c] = 0;
            cows++;
            return c;
        }

        /** The row of what change() names by 0 to 6. */
        int[] trait(int what) {
            switch (what) {
                case 0:
                    return kind;
                case 1:
                    return place;
                case 2:
                    return tone;
                case 3:
                    return swings;
                case 4:
                    return wear;
                case 5:
                    return rung;
                default:
                    return muffled;
            }
        }

        int rings(int c) {
            int plain = swings[c] + grass[place[c]] / 10;
            switch (kind[c]) {
                case CALF:
                    return plain / 2;
                case KID:
                    return plain / 2 + 1;
                case ALTO:
                    return plain + 2;
                case BRIDE:
                    return Math.max(0, plain + 2 - othersWith(c));
                case PASS:
                    return Math.max(0, plain + 2 - othersWith(c)) + thunder / 10;
                case CRACKED:
                    return Math.max(0, plain - wear[c] / 100);
                default:
                    return plain;
            }
        }

        private int othersWith(int c) {
            int others = -1;
            for (int o = 0; o < cows; o++) {
                if (place[o] == place[c]) {
                    others++;
                }
            }
            return others;
        }

        int eats(int c) {
            return EATS[kind[c]];
        }

        int gives(int c) {
            int plain = rung[c] / 4;
            int eighth = rung[c] / 8;
            switch (kind[c]) {
                case CALF:
                case KID:
                case CRACKED:
                    return plain / 2;
                case ALTO:
                    return plain + eighth;
                case BRIDE:
                    return Math.max(0, plain + eighth - 3);
                case PASS:
                    return Math.max(0, plain + eighth - 3) + 5;
                default:
                    return plain;
            }
        }

        int beside(int c) {
            for (int o = 0; o < cows; o++) {
                if (place[o] == place[c] && tone[o] != tone[c]) {
                    return o;
                }
            }
            return NOBODY;
        }

        int thirdTone(int a, int b) {
            return (tone[a] + tone[b]) % TONES;
        }

        void passHours(int n) {
            for (int h = 0; h < n; h++) {
                passHour();
            }
        }

        /** True if a COW goes to another PASTURE in it. */
        boolean passHour() {
            boolean wandered = false;
            for (int c = 0; c < cows; c++) {
                if (ringAndEat(c)) {
                    wandered = true;
                }
            }
            for (int p = 0; p < PASTURES; p++) {
                grass[p] = Math.min(MOST_GRASS, grass[p] + grows);
            }
            hour = Math.min(MOST_HOUR, hour + 1);
            if (hour % MILKING_HOURS == 0) {
                milkAll();
            }
            return wandered;
        }

        private boolean ringAndEat(int c) {
            if (muffled[c] == 0) {
                rung[c] = Math.min(MOST_RUNG, rung[c] + rings(c));
            }
            int p = place[c];
            int left = grass[p] - eats(c);
            grass[p] = Math.max(0, left);
            if (left < 0) {
                wander(c);
            }
            wear[c] = Math.min(MOST_WEAR, wear[c] + 1);
            return left < 0;
        }

        void wander(int c) {
            place[c] = (place[c] + 1) % PASTURES;
        }

        private void milkAll() {
            for (int c = 0; c < cows; c++) {
                int given = gives(c);
                int rest = given - given * thunder / 100;
                int other = beside(c);
                if (other != NOBODY) {
                    int third = rest / 3;
                    fill(thirdTone(c, other), third);
                    rest -= third;
                }
                fill(tone[c], rest);
                rung[c] = 0;
            }
        }

        private void fill(int pail, int milk) {
            pails[pail] = Math.min(MOST_MILK, pails[pail] + milk);
        }

        int draw() {
            z = z * 1103515245 + 12345;
            return z >>> 8;
        }

        int milk() {
            int sum = 0;
            for (int t = 0; t < TONES; t++) {
                sum += pails[t];
            }
            return sum;
        }

        int rungOfAll() {
            int sum = 0;
            for (int c = 0; c < cows; c++) {
                sum += rung[c];
            }
            return sum;
        }

        int grassOfAll() {
            int sum = 0;
            for (int p = 0; p < PASTURES; p++) {
                sum += grass[p];
            }
            return sum;
        }

        int cowsOn(int pasture) {
            int set = 0;
            for (int c = 0; c < cows; c++) {
                if (place[c] == pasture) {
                    set |= 1 << c;
                }
            }
            return set;
        }

        int muffledCows() {
            int set = 0;
            for (int c = 0; c < cows; c++) {
                set |= muffled[c] << c;
            }
            return set;
        }

        int pasturesWithCows() {
            int set = 0;
            for (int c = 0; c < cows; c++) {
                set |= 1 << place[c];
            }
            return set;
        }

        int pailsWithMilk() {
            int set = 0;
            for (int t = 0; t < TONES; t++) {
                if (pails[t] > 0) {
                    set |= 1 << t;
                }
            }
            return set;
        }

        boolean hasBarePasture() {
            for (int p = 0; p < PASTURES; p++) {
                if (grass[p] == 0) {
                    return true;
                }
            }
            return false;
        }

        int spotsHolding() {
            int sum = 0;
            for (int s = 0; s < SPOTS; s++) {
                if (spots[s] != NOBODY) {
                    sum++;
                }
            }
            return sum;
        }
    }

    /** THE TAPE, read as a TEXT token by token. */
    private static final class Tape {
        private static final int END = 0;
        private static final int WORD = 1;
        private static final int NUMBER = 2;
        private static final int SIGN = 3;
        private static final int STRANGE = 4;

        /** Above every NUMBER that may stand anywhere. */
        private static final int TOO_GREAT = 1000;

        private final int[] bytes = new int[MOST_BYTES];
        int length = 0;

        private int token = END;
        /** Where the token begins: the FAULT, if it can't stand there. */
        int begin = 0;
        private int end = 0;
        private int value = 0;
        int items = 0;

        void append(int b) {
            if (length < MOST_BYTES) {
                bytes[length] = b;
                length++;
            }
        }

        /** False if there is a FAULT; then the herd may hold some of the items. */
        boolean readInto(Herd herd) {
            end = 0;
            items = 0;
            for (int i = 0; i <= length; i++) {
                next();
                if (!readItem(herd)) {
                    return false;
                }
                items++;
                if (token != SIGN) {
                    return token == END;
                }
            }
            return false;
        }

        private void next() {
            begin = end;
            while (begin < length && bytes[begin] == ' ') {
                begin++;
            }
            end = begin;
            value = 0;
            if (begin >= length) {
                token = END;
            } else if (isLetter(bytes[begin])) {
                token = WORD;
                while (end < length && isLetter(bytes[end])) {
                    end++;
                }
            } else if (isDigit(bytes[begin])) {
                token = NUMBER;
                while (end < length && isDigit(bytes[end])) {
                    value = Math.min(TOO_GREAT, value * 10 + bytes[end] - '0');
                    end++;
                }
            } else {
                token = bytes[begin] == ';' ? SIGN : STRANGE;
                end++;
            }
        }

        private static boolean isLetter(int b) {
            return b >= 'a' && b <= 'z';
        }

        private static boolean isDigit(int b) {
            return b >= '0' && b <= '9';
        }

        private boolean readItem(Herd herd) {
            int kind = kindOfWord();
            if (kind != NOBODY) {
                return readCow(herd, kind);
            }
            if (isWord("grass")) {
                return readGrass(herd);
            }
            if (isWord("grows")) {
                return readGrows(herd);
            }
            return isWord("thunder") && readThunder(herd);
        }

        private boolean readCow(Herd herd, int kind) {
            if (herd.cows >= MOST_COWS) {
                return false;
            }
            int c = herd.addCow(kind, 0);
            next();
            if (!readTrait("on", herd.place, c, PASTURES - 1)
                    || !readTrait("tone", herd.tone, c, TONES - 1)
                    || !readTrait("swings", herd.swings, c, MOST_SWINGS)) {
                return false;
            }
            if (isWord("muffled")) {
                herd.muffled[c] = 1;
                next();
            }
            return true;
        }

        /** False only if the word is there without its number. */
        private boolean readTrait(String word, int[] row, int c, int most) {
            if (!isWord(word)) {
                return true;
            }
            if (!nextIsNumber(most)) {
                return false;
            }
            row[c] = value;
            next();
            return true;
        }

        private boolean readGrass(Herd herd) {
            if (!nextIsNumber(PASTURES - 1)) {
                return false;
            }
            int pasture = value;
            if (!nextIsNumber(MOST_GRASS)) {
                return false;
            }
            herd.grass[pasture] = value;
            next();
            return true;
        }

        private boolean readGrows(Herd herd) {
            if (!nextIsNumber(MOST_GROWS)) {
                return false;
            }
            herd.grows = value;
            next();
            return true;
        }

        private boolean readThunder(Herd herd) {
            if (!nextIsNumber(MOST_THUNDER)) {
                return false;
            }
            herd.thunder = value;
            next();
            return true;
        }

        private boolean nextIsNumber(int most) {
            next();
            return token == NUMBER && value <= most;
        }

        private int kindOfWord() {
            if (isWord("cow")) {
                return COW;
            }
            if (isWord("calf")) {
                return CALF;
            }
            if (isWord("alto")) {
                return ALTO;
            }
            if (isWord("bride")) {
                return BRIDE;
            }
            if (isWord("pass")) {
                return PASS;
            }
            if (isWord("cracked")) {
                return CRACKED;
            }
            return isWord("kid") ? KID : NOBODY;
        }

        private boolean isWord(String word) {
            if (token != WORD || end - begin != word.length()) {
                return false;
            }
            for (int i = 0; i < word.length(); i++) {
                if (bytes[begin + i] != word.charAt(i)) {
                    return false;
                }
            }
            return true;
        }
    }
}
