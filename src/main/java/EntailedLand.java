import java.util.Arrays;

/**
 * Land that is tied for ever: who holds it, who holds it next, and what a holder makes of his life in it.
 * The promises stand in DOC.md; what is refused is answered by a number below 0 and changes nothing.
 */
public final class EntailedLand {
    public static final int UNKNOWN = -1, BAD = -2, LATE = -3, FULL = -4, NONE = -9;

    private static final int MOST_PEOPLE = 7;
    private static final int MOST_BYTES = 40;
    private static final int MOST_TIMBER = 9;
    private static final int MOST_LOANS = 9;
    private static final int MOST_ACTS = 14;
    private static final int SLOTS = 2;
    private static final int OF_AGE = 2;

    private static final int TIES = 4;
    private static final int SONS = 0;
    private static final int DAUGHTERS = 2;
    private static final int YOUNGEST = 3;

    private static final int MOST_DEATHS_TOLD = 4;
    private static final int MOST_TENS_OF_CUTS = 4;
    private static final int MOST_TENS_OF_LOAN = 5;
    private static final int MOST_DRAWS = 20;

    private static final long SEED_FACTOR = 6364136223846793005L;
    private static final long SEED_STEP = 1442695040888963407L;

    private final Told told = new Told();
    private final Land now = new Land();
    private final Land trial = new Land();
    private final Acts acts = new Acts();
    private final Land[] kept = new Land[SLOTS];
    private final boolean[] isKept = new boolean[SLOTS];
    private final Kin kin = new Kin();
    private final Felling felling = new Felling();
    private final Deaths deathsTold = new Deaths();
    private final Orders orders = new Orders();
    private long seedNow;

    public EntailedLand() {
        for (int slot = 0; slot < SLOTS; slot++) {
            kept[slot] = new Land();
        }
    }

    // ---- the land

    public int write(int letter) {
        if (letter < 0 || letter > 255) {
            return BAD;
        }
        return told.add(letter) ? told.length : FULL;
    }

    public int wipe() {
        int was = told.length;
        told.length = 0;
        return was;
    }

    public int fault() {
        return told.firstFault();
    }

    public int land() {
        if (told.firstFault() != NONE) {
            return LATE;
        }
        told.makeAnew(now);
        acts.forgetAll();
        for (int slot = 0; slot < SLOTS; slot++) {
            isKept[slot] = false;
        }
        return now.people;
    }

    public int about(int what) {
        switch (what) {
            case 0: return now.people;
            case 1: return now.living;
            case 2: return now.holder;
            case 3: return now.tie;
            case 4: return now.timber;
            case 5: return now.loans;
            case 6: return now.time;
            case 7: return acts.size;
            case 8: return told.length;
            default: return BAD;
        }
    }

    public int person(int person, int what) {
        if (!now.has(person)) {
            return UNKNOWN;
        }
        switch (what) {
            case 0: return now.parentOf(person);
            case 1: return now.isWoman(person) ? 1 : 0;
            case 2: return now.ageOf(person);
            case 3: return now.lives(person) ? 1 : 0;
            case 4: return now.childrenOf(person);
            default: return BAD;
        }
    }

    // ---- acts

    public int die(int person) {
        if (!now.has(person)) {
            return UNKNOWN;
        }
        if (!now.lives(person)) {
            return LATE;
        }
        acts.remember(now);
        now.loses(person, kin);
        return now.holder;
    }

    public int bear(int parent, int woman) {
        if (!now.has(parent)) {
            return UNKNOWN;
        }
        if (woman != 0 && woman != 1) {
            return BAD;
        }
        if (!now.lives(parent)) {
            return LATE;
        }
        if (now.people >= MOST_PEOPLE) {
            return FULL;
        }
        acts.remember(now);
        now.gains(parent, woman == 1, 0);
        return now.people - 1;
    }

    public int cut(int n) {
        if (n < 1 || n > MOST_TIMBER) {
            return BAD;
        }
        if (now.timber < n || now.holder == NONE) {
            return LATE;
        }
        acts.remember(now);
        now.timber -= n;
        return now.timber;
    }

    public int borrow(int n) {
        if (n < 1 || n > MOST_LOANS) {
            return BAD;
        }
        if (now.loans + n > MOST_LOANS || now.holder == NONE) {
            return LATE;
        }
        acts.remember(now);
        now.loans += n;
        return now.loans;
    }

    public int breakTie(int tie) {
        if (!isTie(tie)) {
            return BAD;
        }
        if (!hasChildOfAgeAsHeir() || now.tie == tie) {
            return LATE;
        }
        acts.remember(now);
        int was = now.tie;
        now.tie = tie;
        return was;
    }

    public int tens() {
        acts.remember(now);
        now.grows();
        return now.time;
    }

    public int undo() {
        return acts.takeBack(now) ? acts.size : LATE;
    }

    // ---- heirs

    public int heir(int person, int tie) {
        if (!now.has(person)) {
            return UNKNOWN;
        }
        if (!isTie(tie)) {
            return BAD;
        }
        kin.listHeirs(now, person, tie);
        return kin.firstOf(now.living);
    }

    public int line(int person, int other, int tie) {
        if (!now.has(person) || !now.has(other)) {
            return UNKNOWN;
        }
        if (!isTie(tie)) {
            return BAD;
        }
        kin.listLine(now, person, tie);
        return kin.placeOf(other);
    }

    public int next(int tie) {
        if (!isTie(tie)) {
            return BAD;
        }
        trial.copy(now);
        trial.tie = tie;
        int figures = 0;
        for (int k = 0; k < MOST_PEOPLE && trial.holder != NONE; k++) {
            figures = figures * 10 + trial.holder + 1;
            trial.loses(trial.holder, kin);
        }
        return figures;
    }

    public int ever(int tie) {
        if (!isTie(tie)) {
            return BAD;
        }
        if (now.holder == NONE) {
            return 0;
        }
        // Whoever stands among the heirs at all is the first of them once all who stand ahead have died.
        kin.listHeirs(now, now.holder, tie);
        return 1 << now.holder | kin.allOf(now.living);
    }

    // ---- best, ties

    public int best(int n, boolean own, boolean row) {
        if (n < 1 || n > MOST_TENS_OF_CUTS) {
            return BAD;
        }
        if (now.holder == NONE) {
            return LATE;
        }
        felling.reckon(n, own);
        return row ? felling.firstRow(n, now.timber) : felling.mostFor(n, now.timber);
    }

    public int ties(int n, int deaths, int person) {
        if (n < 1 || n > MOST_DEATHS_TOLD || !deathsTold.read(n, deaths, now)) {
            return BAD;
        }
        if (!now.has(person)) {
            return UNKNOWN;
        }
        int bits = 0;
        for (int tie = 0; tie < TIES; tie++) {
            trial.copy(now);
            trial.tie = tie;
            deathsTold.befall(trial, kin);
            if (trial.holder == person) {
                bits |= 1 << tie;
            }
        }
        return bits;
    }

    // ---- rests, odds

    public int rests(int w, int what) {
        if (w < 0 || w > 9 || what < 0 || what > 1) {
            return BAD;
        }
        if (!hasChildOfAgeAsHeir()) {
            return LATE;
        }
        return what == 0 ? Bargain.countRests(w) : Bargain.firstRest(w);
    }

    public int odds(int person, boolean upper) {
        if (!now.has(person)) {
            return UNKNOWN;
        }
        if (!now.lives(person) || now.holder == NONE) {
            return Fraction.part(0, 1, upper);
        }
        int all = Orders.ofSoMany(Integer.bitCount(now.living));
        return Fraction.part(orders.inWhichHolds(now, person), all, upper);
    }

    public int lender(int n, int x, boolean upper) {
        if (n < 1 || n > MOST_TENS_OF_LOAN || x < 0 || x > 9) {
            return BAD;
        }
        if (now.holder == NONE) {
            return Fraction.part(0, 1, upper);
        }
        int above = 1;
        int below = 1;
        int tenths = x + now.ageOf(now.holder);
        for (int k = 0; k < n; k++) {
            above *= 10 - Math.min(10, tenths + k);
            below *= 10;
        }
        return Fraction.part(above, below, upper);
    }

    public long seed(long v) {
        long was = seedNow;
        seedNow = v;
        return was;
    }

    public int families(int m) {
        if (m < 1 || m > MOST_DRAWS) {
            return BAD;
        }
        trial.copy(now);
        int changes = 0;
        for (int k = 0; k < m; k++) {
            seedNow = seedNow * SEED_FACTOR + SEED_STEP;
            int drawn = (int) ((seedNow >>> 33) % 10);
            int before = trial.holder;
            if (trial.lives(drawn)) {
                trial.loses(drawn, kin);
            }
            if (trial.holder != before) {
                changes++;
            }
        }
        return changes;
    }

    // ---- slots

    public int keep(int slot) {
        if (!isSlot(slot)) {
            return UNKNOWN;
        }
        kept[slot].copy(now);
        isKept[slot] = true;
        return now.time;
    }

    public int again(int slot) {
        if (!isSlot(slot)) {
            return UNKNOWN;
        }
        if (!isKept[slot]) {
            return LATE;
        }
        now.copy(kept[slot]);
        acts.forgetAll();
        return now.time;
    }

    private static boolean isTie(int tie) {
        return tie >= 0 && tie < TIES;
    }

    private static boolean isSlot(int slot) {
        return slot >= 0 && slot < SLOTS;
    }

    private boolean hasChildOfAgeAsHeir() {
        if (now.holder == NONE) {
            return false;
        }
        kin.listHeirs(now, now.holder, now.tie);
        int first = kin.firstOf(now.living);
        return first != NONE && now.parentOf(first) == now.holder && now.ageOf(first) >= OF_AGE;
    }

    /** THE TEXT. */
    private static final class Told {
        private static final int HEAD = 3;
        private static final int A_PERSON = 4;

        private final int[] bytes = new int[MOST_BYTES];
        int length;

        boolean add(int letter) {
            if (length < 0 || length >= MOST_BYTES) {
                return false;
            }
            bytes[length] = letter;
            length++;
            return true;
        }

        int firstFault() {
            for (int place = 0; place < length && place < MOST_BYTES; place++) {
                if (!mayStand(place, bytes[place])) {
                    return place;
                }
            }
            boolean atEnd = length >= HEAD && (length - HEAD) % A_PERSON == 0;
            return atEnd ? NONE : length;
        }

        private static boolean mayStand(int place, int letter) {
            if (place == 0) {
                return letter == 'T';
            }
            if (place < HEAD) {
                return isFigure(letter, place == 1 ? TIES - 1 : MOST_TIMBER);
            }
            int person = (place - HEAD) / A_PERSON;
            if (person >= MOST_PEOPLE) {
                return false;
            }
            switch ((place - HEAD) % A_PERSON) {
                case 0: return letter == 'P';
                case 1: return isFigure(letter, Math.max(0, person - 1));
                case 2: return isFigure(letter, 1);
                default: return isFigure(letter, 9);
            }
        }

        private static boolean isFigure(int letter, int greatest) {
            return letter >= '0' && letter <= '0' + greatest;
        }

        private int figureAt(int place) {
            return place >= 0 && place < MOST_BYTES ? bytes[place] - '0' : 0;
        }

        /** Only for a text without a fault. */
        void makeAnew(Land land) {
            land.clear();
            land.tie = figureAt(1);
            land.timber = figureAt(2);
            for (int at = HEAD; at + A_PERSON <= length && at + A_PERSON <= MOST_BYTES; at += A_PERSON) {
                int parent = land.people == 0 ? NONE : figureAt(at + 1);
                land.gains(parent, figureAt(at + 2) == 1, figureAt(at + 3));
            }
            land.holder = land.people == 0 ? NONE : 0;
        }
    }

    /** PEOPLE, who lives, the HOLDER, TIE, TIMBER, LOANS, THE TIME. */
    private static final class Land {
        private final int[] parents = new int[MOST_PEOPLE];
        private final int[] ages = new int[MOST_PEOPLE];
        private int women;
        int people;
        int living;
        int holder = NONE;
        int tie;
        int timber;
        int loans;
        int time;

        void clear() {
            women = 0;
            people = 0;
            living = 0;
            holder = NONE;
            tie = 0;
            timber = 0;
            loans = 0;
            time = 0;
        }

        void copy(Land other) {
            System.arraycopy(other.parents, 0, parents, 0, MOST_PEOPLE);
            System.arraycopy(other.ages, 0, ages, 0, MOST_PEOPLE);
            women = other.women;
            people = other.people;
            living = other.living;
            holder = other.holder;
            tie = other.tie;
            timber = other.timber;
            loans = other.loans;
            time = other.time;
        }

        boolean has(int person) {
            return person >= 0 && person < people && person < MOST_PEOPLE;
        }

        boolean lives(int person) {
            return has(person) && (living >> person & 1) == 1;
        }

        boolean isWoman(int person) {
            return has(person) && (women >> person & 1) == 1;
        }

        int parentOf(int person) {
            return has(person) ? parents[person] : NONE;
        }

        int ageOf(int person) {
            return has(person) ? ages[person] : 0;
        }

        int childrenOf(int person) {
            int bits = 0;
            for (int k = 0; k < people && k < MOST_PEOPLE; k++) {
                if (parents[k] == person) {
                    bits |= 1 << k;
                }
            }
            return bits;
        }

        /** Of children of one PERSON (bits) the first in ORDER; by SONS women too: their LINES are nobody. */
        int firstChild(int children, int tie) {
            int first = NONE;
            for (int k = 0; k < MOST_PEOPLE; k++) {
                if ((children >> k & 1) == 1 && (first == NONE || goesAhead(k, first, tie))) {
                    first = k;
                }
            }
            return first;
        }

        // It looks at the rows itself: through ageOf and has the calls would go too deep (LANGUAGE.md, rule 11).
        private boolean goesAhead(int greater, int lesser, int tie) {
            if (lesser < 0 || greater <= lesser || greater >= MOST_PEOPLE) {
                return false;
            }
            int ofGreater = women >> greater & 1;
            int ofLesser = women >> lesser & 1;
            if (tie == DAUGHTERS && ofGreater != ofLesser) {
                return ofGreater > ofLesser;
            }
            boolean older = ages[greater] > ages[lesser];
            return older != (tie == YOUNGEST);
        }

        void gains(int parent, boolean woman, int age) {
            if (people < 0 || people >= MOST_PEOPLE) {
                return;
            }
            parents[people] = parent;
            ages[people] = age;
            living |= 1 << people;
            if (woman) {
                women |= 1 << people;
            }
            people++;
        }

        void loses(int person, Kin kin) {
            if (!lives(person)) {
                return;
            }
            living &= ~(1 << person);
            if (person == holder) {
                kin.listHeirs(this, person, tie);
                holder = kin.firstOf(living);
                loans = 0;
            }
        }

        void grows() {
            for (int person = 0; person < people && person < MOST_PEOPLE; person++) {
                ages[person]++;
            }
            timber = Math.min(MOST_TIMBER, timber + 1);
            time++;
        }
    }

    /** How THE LAND was ahead of each of the last ACTS. */
    private static final class Acts {
        private final Land[] before = new Land[MOST_ACTS];
        private int first;
        int size;

        Acts() {
            for (int k = 0; k < MOST_ACTS; k++) {
                before[k] = new Land();
            }
        }

        void remember(Land land) {
            if (size == MOST_ACTS) {
                first = (first + 1) % MOST_ACTS;
                size--;
            }
            before[(first + size) % MOST_ACTS].copy(land);
            size++;
        }

        boolean takeBack(Land land) {
            if (size <= 0) {
                return false;
            }
            size--;
            land.copy(before[(first + size) % MOST_ACTS]);
            return true;
        }

        void forgetAll() {
            first = 0;
            size = 0;
        }
    }

    /** A row of PEOPLE: a LINE, or all that may be a PERSON's HEIR, the first one first. */
    private static final class Kin {
        private final int[] row = new int[MOST_PEOPLE];
        private int size;
        private int seen;

        void listLine(Land land, int person, int tie) {
            size = 0;
            seen = 0;
            addLine(land, person, tie, 0);
        }

        void listHeirs(Land land, int person, int tie) {
            size = 0;
            if (!land.has(person)) {
                return;
            }
            seen = 1 << person;
            addChildren(land, person, tie, 0);
            int above = land.parentOf(person);
            for (int k = 0; k < MOST_PEOPLE && above != NONE; k++) {
                addLine(land, above, tie, 0);
                above = land.parentOf(above);
            }
        }

        // Who was seen is passed by with all below: they were listed by then.
        private void addLine(Land land, int person, int tie, int depth) {
            if (depth >= MOST_PEOPLE || size >= MOST_PEOPLE || !land.has(person)) {
                return;
            }
            if ((seen >> person & 1) == 1 || tie == SONS && land.isWoman(person)) {
                return;
            }
            seen |= 1 << person;
            row[size] = person;
            size++;
            addChildren(land, person, tie, depth + 1);
        }

        private void addChildren(Land land, int person, int tie, int depth) {
            int left = land.childrenOf(person);
            for (int k = 0; k < MOST_PEOPLE && left != 0; k++) {
                int child = land.firstChild(left, tie);
                left &= ~(1 << child);
                addLine(land, child, tie, depth);
            }
        }

        int firstOf(int people) {
            for (int k = 0; k < size && k < MOST_PEOPLE; k++) {
                if ((people >> row[k] & 1) == 1) {
                    return row[k];
                }
            }
            return NONE;
        }

        int allOf(int people) {
            int bits = 0;
            for (int k = 0; k < size && k < MOST_PEOPLE; k++) {
                bits |= 1 << row[k];
            }
            return bits & people;
        }

        int placeOf(int person) {
            for (int k = 0; k < size && k < MOST_PEOPLE; k++) {
                if (row[k] == person) {
                    return k;
                }
            }
            return NONE;
        }
    }

    /** What timber is worth to a HOLDER, by how many TENS are still to come and how much of it there is. */
    private static final class Felling {
        private static final int MOST_CUT = 3;

        private final int[][] most = new int[MOST_TENS_OF_CUTS + 1][MOST_TIMBER + 1];

        void reckon(int tens, boolean own) {
            for (int timber = 0; timber <= MOST_TIMBER; timber++) {
                most[0][timber] = own ? 2 * timber : 0;
            }
            for (int left = 1; left <= tens && left <= MOST_TENS_OF_CUTS; left++) {
                for (int timber = 0; timber <= MOST_TIMBER; timber++) {
                    int cut = firstBestCut(left, timber);
                    most[left][timber] = worth(left, timber, cut);
                }
            }
        }

        int mostFor(int tens, int timber) {
            if (tens < 0 || tens > MOST_TENS_OF_CUTS || timber < 0 || timber > MOST_TIMBER) {
                return 0;
            }
            return most[tens][timber];
        }

        // The least cut first gives the least number: all rows are of one length.
        int firstRow(int tens, int timber) {
            int figures = 1;
            int stands = timber;
            for (int left = Math.min(tens, MOST_TENS_OF_CUTS); left > 0; left--) {
                int cut = firstBestCut(left, stands);
                figures = figures * 10 + cut;
                stands = grown(stands - cut);
            }
            return figures;
        }

        private int firstBestCut(int left, int timber) {
            int first = 0;
            for (int cut = 1; cut <= MOST_CUT && cut <= timber; cut++) {
                if (worth(left, timber, cut) > worth(left, timber, first)) {
                    first = cut;
                }
            }
            return first;
        }

        private int worth(int left, int timber, int cut) {
            return cut + mostFor(left - 1, grown(timber - cut));
        }

        private static int grown(int timber) {
            return Math.min(MOST_TIMBER, timber + 1);
        }
    }

    /** Deaths told as figures, 1 more than each PERSON, the first death's figure first. */
    private static final class Deaths {
        private final int[] people = new int[MOST_DEATHS_TOLD];
        private int size;

        /** Whether these are n figures of PEOPLE that live, each once. */
        boolean read(int n, int figures, Land land) {
            size = 0;
            if (n < 1 || n > MOST_DEATHS_TOLD || figures < 0) {
                return false;
            }
            int rest = figures;
            int seen = 0;
            for (int k = n - 1; k >= 0; k--) {
                int person = rest % 10 - 1;
                if (!land.lives(person) || (seen >> person & 1) == 1) {
                    return false;
                }
                seen |= 1 << person;
                people[k] = person;
                rest /= 10;
            }
            size = n;
            return rest == 0;
        }

        void befall(Land land, Kin kin) {
            for (int k = 0; k < size && k < MOST_DEATHS_TOLD; k++) {
                land.loses(people[k], kin);
            }
        }
    }

    /** The HOLDER asks, its HEIR offers, for breaking the TIE. */
    private static final class Bargain {
        private static final int CHOICES = 5;

        private Bargain() {
        }

        static int countRests(int w) {
            int count = 0;
            for (int asked = 0; asked < CHOICES; asked++) {
                for (int offered = 0; offered < CHOICES; offered++) {
                    if (isAtRest(asked, offered, w)) {
                        count++;
                    }
                }
            }
            return count;
        }

        static int firstRest(int w) {
            for (int asked = 0; asked < CHOICES; asked++) {
                for (int offered = 0; offered < CHOICES; offered++) {
                    if (isAtRest(asked, offered, w)) {
                        return 10 * asked + offered;
                    }
                }
            }
            return NONE;
        }

        private static boolean isAtRest(int asked, int offered, int w) {
            for (int other = 0; other < CHOICES; other++) {
                if (holderHas(other, offered) > holderHas(asked, offered)) {
                    return false;
                }
                if (heirHas(asked, other, w) > heirHas(asked, offered, w)) {
                    return false;
                }
            }
            return true;
        }

        private static int holderHas(int asked, int offered) {
            return offered >= asked ? offered : 0;
        }

        private static int heirHas(int asked, int offered, int w) {
            return offered >= asked ? w - offered : 0;
        }
    }

    /** Orders in which all PEOPLE that live die one by one. */
    private static final class Orders {
        private static final int SETS = 1 << MOST_PEOPLE;

        private final Kin[] heirs = new Kin[MOST_PEOPLE];
        // In how many orders it comes to one set that still lives with one HOLDER, ahead of whom the PERSON never held.
        private final int[] ways = new int[SETS * MOST_PEOPLE];

        Orders() {
            for (int k = 0; k < MOST_PEOPLE; k++) {
                heirs[k] = new Kin();
            }
        }

        static int ofSoMany(int people) {
            int product = 1;
            for (int k = 2; k <= people && k <= MOST_PEOPLE; k++) {
                product *= k;
            }
            return product;
        }

        /** In how many orders a PERSON that lives holds at some time. */
        int inWhichHolds(Land land, int person) {
            begin(land);
            int sum = 0;
            // What is left of a set has a lesser number than the set itself: each is whole when its turn comes.
            for (int set = Math.min(land.living, SETS - 1); set > 0; set--) {
                for (int holder = 0; holder < MOST_PEOPLE; holder++) {
                    int here = ways[set * MOST_PEOPLE + holder];
                    if (here > 0 && holder == person) {
                        sum += here * ofSoMany(Integer.bitCount(set));
                    } else if (here > 0) {
                        goOn(set, holder, person, here);
                    }
                }
            }
            return sum;
        }

        private void begin(Land land) {
            Arrays.fill(ways, 0);
            for (int k = 0; k < MOST_PEOPLE; k++) {
                heirs[k].listHeirs(land, k, land.tie);
            }
            add(land.living, land.holder, 1);
        }

        private void goOn(int set, int holder, int person, int here) {
            for (int dies = 0; dies < MOST_PEOPLE; dies++) {
                if ((set >> dies & 1) == 1 && dies != person) {
                    int left = set & ~(1 << dies);
                    add(left, dies == holder ? heirs[dies].firstOf(left) : holder, here);
                }
            }
        }

        private void add(int set, int holder, int more) {
            if (set >= 0 && set < SETS && holder >= 0 && holder < MOST_PEOPLE) {
                ways[set * MOST_PEOPLE + holder] += more;
            }
        }
    }

    /** A FRACTION in least terms. */
    private static final class Fraction {
        private Fraction() {
        }

        static int part(int above, int below, boolean upper) {
            int common = greatestCommon(above, below);
            if (common == 0) {
                return 0;
            }
            return upper ? above / common : below / common;
        }

        private static int greatestCommon(int a, int b) {
            int greater = a;
            int lesser = b;
            for (int k = 0; k < 64 && lesser != 0; k++) {
                int rest = greater % lesser;
                greater = lesser;
                lesser = rest;
            }
            return greater;
        }
    }
}
