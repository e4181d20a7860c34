/**
 * A bench for things that go through hidden states and show signs. Every
 * chance is a whole number out of a known one, told to the last digit.
 */
public final class HiddenSteps {
    public static final int NONE = -1, EMPTY = -2, ROUGH = -3, UNFIT = -4, NOUGHT = -5, FULL = -6;

    private static final int MOST_CHAINS = 6;
    private static final int MOST_STATES = 8;
    private static final int MOST_SIGNS = 6;
    private static final int MOST_TOTAL = 1000;
    private static final int MOST_PLACES = 60;
    private static final int MOST_RANKS = 20;
    private static final int PARTS = 26;

    private static final int MISSED = -1;
    private static final int NO_PLACE = -2;
    private static final int NOT_COMPARED = -2;

    /** Two limbs are one part of 18 digits, and a product of two limbs is a long. */
    private static final int BASE = 1000000000;
    private static final int BASE_DIGITS = 9;

    /** No chance is above 1000 to the 120, which has 361 digits; a product may take one limb more. */
    private static final int ROOM = 42;
    private static final int DOUBLE_ROOM = 2 * ROOM;

    /** The states of two chains side by side. */
    private static final int MOST_WIDTH = 2 * MOST_STATES;

    /** All above 10 to the 9, and a product of two rests is still a long. */
    private static final int[] PRIMES = {
        2147483647, 2147483629, 2147483587, 2147483579, 2147483563,
        2147483549, 2147483543, 2147483497, 2147483489, 2147483477
    };

    private final Chain[] chains;
    private int chainCount;
    private final SignRow row;
    private final Whole whole;
    private final Sweep sweep;
    private final Whole left;
    private final Whole right;
    private final Teller teller;
    /** Made by the first best(), for it has by far the most rows. */
    private Ranking ranking;
    private final int[] foundStates;
    private int foundLength;

    public HiddenSteps() {
        chains = new Chain[MOST_CHAINS];
        chainCount = 0;
        row = new SignRow();
        whole = new Whole(ROOM);
        sweep = new Sweep();
        left = new Whole(DOUBLE_ROOM);
        right = new Whole(DOUBLE_ROOM);
        teller = new Teller();
        ranking = null;
        foundStates = new int[MOST_PLACES];
        foundLength = 0;
    }

    public int chain(int n, int m, int total) {
        if (!isWithin(n, 1, MOST_STATES) || !isWithin(m, 1, MOST_SIGNS) || !isWithin(total, 1, MOST_TOTAL)) {
            return NONE;
        }
        if (chainCount >= MOST_CHAINS) {
            return FULL;
        }
        chains[chainCount] = new Chain(n, m, total);
        chainCount++;
        return chainCount - 1;
    }

    public int begin(int c, int s, int w) {
        Chain chain = chainNumbered(c);
        if (chain == null || !chain.hasState(s) || !chain.hasWeight(w)) {
            return NONE;
        }
        return chain.putBegin(s, w);
    }

    public int go(int c, int s, int t, int w) {
        Chain chain = chainNumbered(c);
        if (chain == null || !chain.hasState(s) || !chain.hasState(t) || !chain.hasWeight(w)) {
            return NONE;
        }
        return chain.putGo(s, t, w);
    }

    public int show(int c, int s, int x, int w) {
        Chain chain = chainNumbered(c);
        if (chain == null || !chain.hasState(s) || !chain.hasSign(x) || !chain.hasWeight(w)) {
            return NONE;
        }
        return chain.putShow(s, x, w);
    }

    public int sound(int c) {
        Chain chain = chainNumbered(c);
        if (chain == null) {
            return NONE;
        }
        return chain.isSound() ? 1 : 0;
    }

    public int told(int c, int what) {
        Chain chain = chainNumbered(c);
        if (chain == null) {
            return NONE;
        }
        switch (what) {
            case 0:
                return chain.states;
            case 1:
                return chain.signs;
            case 2:
                return chain.total;
            default:
                return NONE;
        }
    }

    public int sign(int x) {
        if (x != MISSED && !isWithin(x, 0, MOST_SIGNS - 1)) {
            return NONE;
        }
        if (row.isFull()) {
            return FULL;
        }
        row.append(x);
        return row.length();
    }

    public int cut(int n) {
        if (!isWithin(n, 0, row.length())) {
            return NONE;
        }
        row.shorten(n);
        return n;
    }

    public int at(int i) {
        return row.hasPlace(i) ? row.signAt(i) : NO_PLACE;
    }

    public int sum(int c) {
        Chain chain = chainNumbered(c);
        if (chain == null) {
            return NONE;
        }
        int refused = rowRefusal(chain);
        if (refused != 0) {
            return refused;
        }
        sweep.putChance(whole, chain, row);
        return whole.digits();
    }

    public int odds(int c, int i, int s, int how) {
        Chain chain = chainNumbered(c);
        if (chain == null || !row.hasPlace(i) || !chain.hasState(s) || !isWithin(how, 0, 2)) {
            return NONE;
        }
        int refused = rowRefusal(chain);
        if (refused != 0) {
            return refused;
        }
        if (how == 0) {
            sweep.putAhead(whole, chain, row, i, s);
        } else if (how == 1) {
            sweep.putBehind(whole, chain, row, i, s);
        } else {
            sweep.putBoth(whole, chain, row, i, s);
        }
        return whole.digits();
    }

    public int moment(int c, int i) {
        Chain chain = chainNumbered(c);
        if (chain == null || !row.hasPlace(i)) {
            return NONE;
        }
        int refused = rowRefusal(chain);
        if (refused != 0) {
            return refused;
        }
        int likeliest = sweep.likeliestState(chain, row, i);
        return likeliest < 0 ? NOUGHT : likeliest;
    }

    public int best(int c, int k) {
        Chain chain = chainNumbered(c);
        if (chain == null || !isWithin(k, 0, MOST_RANKS - 1)) {
            return NONE;
        }
        int refused = rowRefusal(chain);
        if (refused != 0) {
            return refused;
        }
        if (ranking == null) {
            ranking = new Ranking();
        }
        int ranked = ranking.rankRows(chain, row, k + 1);
        if (ranked <= k) {
            return 0;
        }
        foundLength = row.length();
        ranking.traceStates(k, foundStates, foundLength);
        ranking.putValue(whole, k);
        return whole.digits();
    }

    public int state(int i) {
        return isWithin(i, 0, foundLength - 1) ? foundStates[i] : NONE;
    }

    public int compare(int a, int b) {
        Chain one = chainNumbered(a);
        Chain other = chainNumbered(b);
        if (one == null || other == null || rowRefusal(one) != 0 || rowRefusal(other) != 0) {
            return NOT_COMPARED;
        }
        putCrossChance(left, one, other.total);
        putCrossChance(right, other, one.total);
        return left.orderTo(right);
    }

    public int same(int a, int b) {
        int refused = pairRefusal(a, b);
        if (refused != 0) {
            return refused;
        }
        return tellingLength(a, b) == 0 ? 1 : 0;
    }

    public int apart(int a, int b) {
        int refused = pairRefusal(a, b);
        if (refused != 0) {
            return refused;
        }
        int length = tellingLength(a, b);
        row.shorten(0);
        for (int i = 0; i < length; i++) {
            row.append(teller.foundSign(i));
        }
        return length;
    }

    public int twins(int c, int s, int t) {
        Chain chain = chainNumbered(c);
        if (chain == null || !chain.hasState(s) || !chain.hasState(t)) {
            return NONE;
        }
        if (!chain.isSound()) {
            return ROUGH;
        }
        teller.loadStates(chain, s, t);
        return teller.findTelling() == 0 ? 1 : 0;
    }

    public long part(int k) {
        return isWithin(k, 0, PARTS - 1) ? whole.eighteenDigits(k) : NONE;
    }

    public int count(int what) {
        switch (what) {
            case 0:
                return chainCount;
            case 1:
                return row.length();
            default:
                return NONE;
        }
    }

    public int remove() {
        if (chainCount < 1) {
            return NONE;
        }
        chainCount--;
        chains[chainCount] = null;
        return chainCount;
    }

    private static boolean isWithin(int value, int least, int most) {
        return value >= least && value <= most;
    }

    private static Whole[] makeWholes(int n) {
        Whole[] made = new Whole[Math.max(1, n)];
        for (int i = 0; i < made.length; i++) {
            made[i] = new Whole(ROOM);
        }
        return made;
    }

    /** The chain with a number, null if there is none. */
    private Chain chainNumbered(int c) {
        return isWithin(c, 0, chainCount - 1) ? chains[c] : null;
    }

    /** EMPTY, ROUGH or UNFIT, the first that holds; 0 if none does. */
    private int rowRefusal(Chain chain) {
        if (row.length() == 0) {
            return EMPTY;
        }
        if (!chain.isSound()) {
            return ROUGH;
        }
        return row.fits(chain) ? 0 : UNFIT;
    }

    /** NONE, ROUGH or UNFIT of two chains, the first that holds; 0 if none does. */
    private int pairRefusal(int a, int b) {
        Chain one = chainNumbered(a);
        Chain other = chainNumbered(b);
        if (one == null || other == null) {
            return NONE;
        }
        if (!one.isSound() || !other.isSound()) {
            return ROUGH;
        }
        return one.signs == other.signs && one.total == other.total ? 0 : UNFIT;
    }

    /** How many signs the row has that tells two chains apart, 0 if there is none. */
    private int tellingLength(int a, int b) {
        Chain one = chainNumbered(a);
        Chain other = chainNumbered(b);
        if (one == null || other == null) {
            return 0;
        }
        teller.loadChains(one, other);
        return teller.findTelling();
    }

    /** The chance of the row times the other chain's total to the 2 L: two such can be compared. */
    private void putCrossChance(Whole target, Chain chain, int otherTotal) {
        sweep.putChance(target, chain, row);
        for (int i = 0; i < row.length(); i++) {
            target.setScaled(target, (long) otherTotal * otherTotal);
        }
    }

    /** A whole number, 0 or more, by limbs below BASE, the least first. */
    private static final class Whole {
        private final int[] limbs;
        /** The limbs in use; the last one of them is not 0. What stands behind them is stale. */
        private int size;

        Whole(int room) {
            limbs = new int[Math.max(1, room)];
            size = 0;
        }

        boolean isNought() {
            return size == 0;
        }

        long limbAt(int i) {
            return i >= 0 && i < size ? limbs[i] : 0;
        }

        /** For values 0 .. BASE - 1. */
        void setSmall(int value) {
            limbs[0] = value;
            trimFrom(1);
        }

        void setTo(Whole other) {
            int used = Math.min(other.size, limbs.length);
            System.arraycopy(other.limbs, 0, limbs, 0, used);
            size = used;
        }

        /** The other one, which may be this one, times a factor of at most 1000 * 1000. */
        void setScaled(Whole other, long factor) {
            int used = Math.min(other.size, limbs.length - 1);
            long carry = 0;
            for (int j = 0; j < used; j++) {
                long column = other.limbs[j] * factor + carry;
                limbs[j] = (int) (column % BASE);
                carry = column / BASE;
            }
            limbs[used] = (int) carry;
            trimFrom(used + 1);
        }

        /** The sum of the first n terms, each times its factor of at most 1000 * 1000; n is at most 8. */
        void setMix(Whole[] terms, long[] factors, int n) {
            int mixed = Math.min(n, Math.min(terms.length, factors.length));
            int longest = 0;
            for (int i = 0; i < mixed; i++) {
                longest = Math.max(longest, terms[i].size);
            }
            int used = Math.min(longest + 1, limbs.length);
            long carry = 0;
            for (int j = 0; j < used; j++) {
                long column = carry;
                for (int i = 0; i < mixed; i++) {
                    column += terms[i].limbAt(j) * factors[i];
                }
                limbs[j] = (int) (column % BASE);
                carry = column / BASE;
            }
            trimFrom(used);
        }

        /** The product of two others, neither of them this one. */
        void setProduct(Whole one, Whole other) {
            int used = Math.min(one.size + other.size, limbs.length);
            for (int i = 0; i < used; i++) {
                limbs[i] = 0;
            }
            for (int i = 0; i < one.size; i++) {
                long carry = 0;
                for (int j = 0; j <= other.size && i + j < used; j++) {
                    long column = limbs[i + j] + one.limbAt(i) * other.limbAt(j) + carry;
                    limbs[i + j] = (int) (column % BASE);
                    carry = column / BASE;
                }
            }
            trimFrom(used);
        }

        private void trimFrom(int used) {
            size = Math.min(used, limbs.length);
            while (size > 0 && limbs[size - 1] == 0) {
                size--;
            }
        }

        /** -1, 0, 1: this one is less than the other, the same, greater. */
        int orderTo(Whole other) {
            if (size != other.size) {
                return size < other.size ? -1 : 1;
            }
            for (int i = size - 1; i >= 0; i--) {
                if (limbAt(i) != other.limbAt(i)) {
                    return limbAt(i) < other.limbAt(i) ? -1 : 1;
                }
            }
            return 0;
        }

        int digits() {
            if (size == 0) {
                return 1;
            }
            int digits = BASE_DIGITS * (size - 1);
            for (long top = limbAt(size - 1); top > 0; top /= 10) {
                digits++;
            }
            return digits;
        }

        long eighteenDigits(int k) {
            return limbAt(2 * k + 1) * BASE + limbAt(2 * k);
        }
    }

    /** States and signs with their weights. */
    private static final class Chain {
        final int states;
        final int signs;
        final int total;
        private final int[] begins;
        private final int[] goes;
        private final int[] shows;

        Chain(int n, int m, int total) {
            states = Math.max(1, Math.min(n, MOST_STATES));
            signs = Math.max(1, Math.min(m, MOST_SIGNS));
            this.total = total;
            begins = new int[states];
            goes = new int[states * states];
            shows = new int[states * signs];
        }

        boolean hasState(int s) {
            return s >= 0 && s < states;
        }

        boolean hasSign(int x) {
            return x >= 0 && x < signs;
        }

        boolean hasWeight(int w) {
            return w >= 0 && w <= total;
        }

        int beginOf(int s) {
            return hasState(s) ? begins[s] : 0;
        }

        int goOf(int s, int t) {
            return hasState(s) && hasState(t) ? goes[s * states + t] : 0;
        }

        /** At a missed place any sign may have been shown, so that its weight is the total. */
        int showOf(int s, int x) {
            if (x == MISSED) {
                return total;
            }
            return hasState(s) && hasSign(x) ? shows[s * signs + x] : 0;
        }

        /** Of going from s to t and showing x there. */
        long stepWeight(int s, int t, int x) {
            return (long) goOf(s, t) * showOf(t, x);
        }

        /** Of beginning with s and showing x there. */
        int startWeight(int s, int x) {
            return beginOf(s) * showOf(s, x);
        }

        int putBegin(int s, int w) {
            return hasState(s) ? replace(begins, s, w) : NONE;
        }

        int putGo(int s, int t, int w) {
            return hasState(s) && hasState(t) ? replace(goes, s * states + t, w) : NONE;
        }

        int putShow(int s, int x, int w) {
            return hasState(s) && hasSign(x) ? replace(shows, s * signs + x, w) : NONE;
        }

        private static int replace(int[] weights, int i, int w) {
            if (i < 0 || i >= weights.length) {
                return NONE;
            }
            int before = weights[i];
            weights[i] = w;
            return before;
        }

        boolean isSound() {
            if (!isTotal(begins, 0, states)) {
                return false;
            }
            for (int s = 0; s < states; s++) {
                if (!isTotal(goes, s * states, states) || !isTotal(shows, s * signs, signs)) {
                    return false;
                }
            }
            return true;
        }

        private boolean isTotal(int[] weights, int from, int n) {
            int together = 0;
            for (int i = from; i < from + n && i < weights.length; i++) {
                together += weights[i];
            }
            return together == total;
        }
    }

    /** THE ROW. */
    private static final class SignRow {
        private final int[] signs;
        private int length;

        SignRow() {
            signs = new int[MOST_PLACES];
            length = 0;
        }

        int length() {
            return length;
        }

        boolean isFull() {
            return length >= signs.length;
        }

        boolean hasPlace(int i) {
            return i >= 0 && i < length;
        }

        int signAt(int i) {
            return hasPlace(i) ? signs[i] : MISSED;
        }

        void append(int x) {
            if (!isFull()) {
                signs[length] = x;
                length++;
            }
        }

        void shorten(int n) {
            if (n >= 0 && n < length) {
                length = n;
            }
        }

        boolean fits(Chain chain) {
            for (int i = 0; i < length; i++) {
                if (signs[i] != MISSED && !chain.hasSign(signs[i])) {
                    return false;
                }
            }
            return true;
        }
    }

    /** Goes through the row from its front and from its end, with one number for each state. */
    private static final class Sweep {
        private Whole[] ahead;
        private Whole[] behind;
        private Whole[] spare;
        private final long[] factors;
        private final Whole product;
        private final Whole greatest;

        Sweep() {
            ahead = makeWholes(MOST_STATES);
            behind = makeWholes(MOST_STATES);
            spare = makeWholes(MOST_STATES);
            factors = new long[MOST_STATES];
            product = new Whole(ROOM);
            greatest = new Whole(ROOM);
        }

        private void sweepAhead(Chain chain, SignRow row, int place) {
            int n = Math.min(chain.states, ahead.length);
            for (int s = 0; s < n; s++) {
                ahead[s].setSmall(chain.startWeight(s, row.signAt(0)));
            }
            for (int i = 1; i <= place; i++) {
                for (int t = 0; t < n; t++) {
                    for (int s = 0; s < n; s++) {
                        factors[s] = chain.stepWeight(s, t, row.signAt(i));
                    }
                    spare[t].setMix(ahead, factors, n);
                }
                Whole[] before = ahead;
                ahead = spare;
                spare = before;
            }
        }

        private void sweepBehind(Chain chain, SignRow row, int place) {
            int n = Math.min(chain.states, behind.length);
            for (int s = 0; s < n; s++) {
                behind[s].setSmall(1);
            }
            for (int i = row.length() - 1; i > place; i--) {
                for (int s = 0; s < n; s++) {
                    for (int t = 0; t < n; t++) {
                        factors[t] = chain.stepWeight(s, t, row.signAt(i));
                    }
                    spare[s].setMix(behind, factors, n);
                }
                Whole[] before = behind;
                behind = spare;
                spare = before;
            }
        }

        /** The chance of the whole row. */
        void putChance(Whole target, Chain chain, SignRow row) {
            sweepAhead(chain, row, row.length() - 1);
            for (int s = 0; s < factors.length; s++) {
                factors[s] = 1;
            }
            target.setMix(ahead, factors, chain.states);
        }

        void putAhead(Whole target, Chain chain, SignRow row, int place, int s) {
            sweepAhead(chain, row, place);
            if (s >= 0 && s < ahead.length) {
                target.setTo(ahead[s]);
            }
        }

        void putBehind(Whole target, Chain chain, SignRow row, int place, int s) {
            sweepBehind(chain, row, place);
            if (s >= 0 && s < behind.length) {
                target.setTo(behind[s]);
            }
        }

        void putBoth(Whole target, Chain chain, SignRow row, int place, int s) {
            sweepAhead(chain, row, place);
            sweepBehind(chain, row, place);
            if (s >= 0 && s < ahead.length && s < behind.length) {
                target.setProduct(ahead[s], behind[s]);
            }
        }

        /** The least state with the greatest product, -1 if all products are 0. */
        int likeliestState(Chain chain, SignRow row, int place) {
            int n = Math.min(chain.states, ahead.length);
            int likeliest = -1;
            greatest.setSmall(0);
            sweepAhead(chain, row, place);
            sweepBehind(chain, row, place);
            for (int s = 0; s < n; s++) {
                product.setProduct(ahead[s], behind[s]);
                if (product.orderTo(greatest) > 0) {
                    greatest.setTo(product);
                    likeliest = s;
                }
            }
            return likeliest;
        }
    }

    /**
     * The best rows of states, built from the last place to the first. Each
     * state has a list of the best rows that go on from it; the list of a state
     * one place before is merged from these. Built so, and not from the first
     * place on, like chances need no look at the rows: the lesser next state
     * comes first, and behind one and the same state its list is in order.
     */
    private static final class Ranking {
        /** The lists of the place that has been done last, rank by rank for each state. */
        private Whole[] values;
        private int[] counts;
        /** The lists of the place that is being done. */
        private Whole[] nextValues;
        private int[] nextCounts;
        /** For each list that is being merged: its first entry that is not used yet, weighed. */
        private final Whole[] heads;
        private final int[] headRanks;
        private final long[] weights;
        /** For each step, state and rank: the list entry that it goes on with. */
        private final int[] links;

        Ranking() {
            values = makeWholes(MOST_STATES * MOST_RANKS);
            counts = new int[MOST_STATES];
            nextValues = makeWholes(MOST_STATES * MOST_RANKS);
            nextCounts = new int[MOST_STATES];
            heads = makeWholes(MOST_STATES);
            headRanks = new int[MOST_STATES];
            weights = new long[MOST_STATES];
            links = new int[MOST_PLACES * MOST_STATES * MOST_RANKS];
        }

        private static int entry(int s, int rank) {
            return s * MOST_RANKS + rank;
        }

        /** Ranks the first rows, as many as are wanted: how many there are of these. */
        int rankRows(Chain chain, SignRow row, int wanted) {
            int n = Math.min(chain.states, MOST_STATES);
            int most = Math.min(wanted, MOST_RANKS);
            for (int s = 0; s < n; s++) {
                values[entry(s, 0)].setSmall(1);
                counts[s] = 1;
            }
            for (int step = row.length() - 1; step > 0; step--) {
                for (int s = 0; s < n; s++) {
                    for (int t = 0; t < n; t++) {
                        weights[t] = chain.stepWeight(s, t, row.signAt(step));
                    }
                    mergeLists(step, s, n, most);
                }
                swapLists();
            }
            for (int t = 0; t < n; t++) {
                weights[t] = chain.startWeight(t, row.signAt(0));
            }
            mergeLists(0, 0, n, most);
            swapLists();
            return counts[0];
        }

        private void swapLists() {
            Whole[] doneValues = nextValues;
            nextValues = values;
            values = doneValues;
            int[] doneCounts = nextCounts;
            nextCounts = counts;
            counts = doneCounts;
        }

        /** Makes the list of state s before a step; before step 0 there is one list only, as if of state 0. */
        private void mergeLists(int step, int s, int n, int most) {
            for (int t = 0; t < n; t++) {
                headRanks[t] = 0;
                weighHead(t);
            }
            int base = step * MOST_STATES * MOST_RANKS;
            int merged = 0;
            while (merged < most) {
                int t = greatestHead(n);
                if (t < 0) {
                    break;
                }
                int made = entry(s, merged);
                nextValues[made].setTo(heads[t]);
                if (base >= 0 && base + made < links.length) {
                    links[base + made] = entry(t, headRanks[t]);
                }
                headRanks[t]++;
                weighHead(t);
                merged++;
            }
            nextCounts[s] = merged;
        }

        private void weighHead(int t) {
            int rank = headRanks[t];
            if (weights[t] > 0 && rank < counts[t] && rank < MOST_RANKS) {
                heads[t].setScaled(values[entry(t, rank)], weights[t]);
            } else {
                heads[t].setSmall(0);
            }
        }

        /** The least state with the greatest head, -1 if all are 0. */
        private int greatestHead(int n) {
            int greatest = -1;
            for (int t = 0; t < n; t++) {
                if (!heads[t].isNought() && (greatest < 0 || heads[t].orderTo(heads[greatest]) > 0)) {
                    greatest = t;
                }
            }
            return greatest;
        }

        /** The chance of the k-th row of those that were ranked last. */
        void putValue(Whole target, int k) {
            if (k >= 0 && k < counts[0]) {
                target.setTo(values[entry(0, k)]);
            }
        }

        /** The states of the k-th row of those that were ranked last. */
        void traceStates(int k, int[] target, int length) {
            int from = k;
            for (int step = 0; step < length && step < target.length; step++) {
                int i = step * MOST_STATES * MOST_RANKS + from;
                if (i < 0 || i >= links.length) {
                    return;
                }
                from = links[i];
                target[step] = from / MOST_RANKS;
            }
        }
    }

    /**
     * Finds the first row of signs, the shortest first, whose chance is not the
     * same from two beginnings. A row of signs turns the difference of the two
     * beginnings into a difference over the states. If that is a mix of the
     * differences of rows before it, the row need not be gone on with: where
     * signs behind it tell, they tell behind one of those rows too. So no more
     * rows are gone on with than there are states.
     *
     * Differences are counted by their rests for a prime, and each prime finds
     * the first row whose difference it does not divide: never a row that does
     * not tell, but perhaps not the first. The difference for a row of r signs
     * is at most 10^(6 r), so that 2 r / 3 primes above 10^9 cannot all divide
     * it: the first of the rows that so many primes find is the first of all.
     */
    private static final class Teller {
        private int width;
        private int signs;
        private final int[] goes;
        private final int[] shows;
        private final int[] start;
        /** The rows of signs that are gone on with, in order, their differences, and these as an echelon. */
        private int kept;
        private final int[] words;
        private final int[] lengths;
        private final long[] differences;
        private final long[] echelon;
        private final int[] pivots;
        private final long[] shown;
        private final long[] grown;
        private final int[] found;
        private int foundLength;

        Teller() {
            width = 0;
            signs = 0;
            goes = new int[MOST_WIDTH * MOST_WIDTH];
            shows = new int[MOST_WIDTH * MOST_SIGNS];
            start = new int[MOST_WIDTH];
            kept = 0;
            words = new int[MOST_WIDTH * MOST_WIDTH];
            lengths = new int[MOST_WIDTH];
            differences = new long[MOST_WIDTH * MOST_WIDTH];
            echelon = new long[MOST_WIDTH * MOST_WIDTH];
            pivots = new int[MOST_WIDTH];
            shown = new long[MOST_WIDTH];
            grown = new long[MOST_WIDTH];
            found = new int[MOST_WIDTH];
            foundLength = 0;
        }

        void loadChains(Chain one, Chain other) {
            clearTables(one.signs);
            addStates(one);
            int shift = width;
            addStates(other);
            for (int s = 0; s < one.states && s < shift; s++) {
                start[s] = one.beginOf(s);
            }
            for (int s = 0; s < other.states && shift + s < width; s++) {
                start[shift + s] = -other.beginOf(s);
            }
        }

        void loadStates(Chain chain, int s, int t) {
            clearTables(chain.signs);
            addStates(chain);
            if (s != t && chain.hasState(s) && chain.hasState(t)) {
                start[s] = 1;
                start[t] = -1;
            }
        }

        private void clearTables(int m) {
            width = 0;
            signs = Math.min(m, MOST_SIGNS);
            for (int i = 0; i < goes.length; i++) {
                goes[i] = 0;
            }
            for (int i = 0; i < start.length; i++) {
                start[i] = 0;
            }
        }

        private void addStates(Chain chain) {
            int shift = width;
            width = Math.min(shift + chain.states, MOST_WIDTH);
            for (int s = 0; shift + s < width; s++) {
                for (int t = 0; shift + t < width; t++) {
                    goes[(shift + s) * MOST_WIDTH + shift + t] = chain.goOf(s, t);
                }
                for (int x = 0; x < signs; x++) {
                    shows[(shift + s) * MOST_SIGNS + x] = chain.showOf(s, x);
                }
            }
        }

        int foundSign(int i) {
            return i >= 0 && i < foundLength ? found[i] : 0;
        }

        /** How many signs the first row has by which the beginnings are told apart, 0 if there is none. */
        int findTelling() {
            foundLength = 0;
            // The differences kept all have the sum 0, so that there is one fewer of them than states.
            int reach = width - 1;
            for (int i = 0; i < PRIMES.length && 3 * i < 2 * reach; i++) {
                searchBy(PRIMES[i], reach);
                if (foundLength > 0) {
                    reach = foundLength;
                }
            }
            return foundLength;
        }

        /** Looks at rows of at most so many signs. */
        private void searchBy(int prime, int reach) {
            kept = 0;
            for (int s = 0; s < width; s++) {
                grown[s] = restOf(start[s], prime);
            }
            keepGrown(-1, 0, prime);
            for (int k = 0; k < kept && lengths[k] < reach; k++) {
                for (int x = 0; x < signs; x++) {
                    if (showSign(k, x, prime) != 0) {
                        offerFound(k, x);
                        return;
                    }
                    goOn(prime);
                    keepGrown(k, x, prime);
                }
            }
        }

        private static long restOf(long value, int prime) {
            if (prime < 2) {
                return 0;
            }
            long rest = value % prime;
            return rest < 0 ? rest + prime : rest;
        }

        /** The difference of the chances of the k-th row kept with a sign x behind it. */
        private long showSign(int k, int x, int prime) {
            long sum = 0;
            for (int s = 0; s < width; s++) {
                shown[s] = restOf(differences[k * MOST_WIDTH + s] * shows[s * MOST_SIGNS + x], prime);
                sum += shown[s];
            }
            return restOf(sum, prime);
        }

        private void goOn(int prime) {
            for (int t = 0; t < width; t++) {
                long sum = 0;
                for (int s = 0; s < width; s++) {
                    sum += shown[s] * goes[s * MOST_WIDTH + t];
                }
                grown[t] = restOf(sum, prime);
            }
        }

        /** Keeps what has grown behind a row kept (-1: the row without signs) and x, unless it is a mix of others. */
        private void keepGrown(int parent, int x, int prime) {
            if (kept >= MOST_WIDTH) {
                return;
            }
            int base = kept * MOST_WIDTH;
            for (int t = 0; t < width; t++) {
                differences[base + t] = grown[t];
                echelon[base + t] = grown[t];
            }
            int pivot = reduceLast(prime);
            if (pivot < 0) {
                return;
            }
            pivots[kept] = pivot;
            lengths[kept] = 0;
            if (parent >= 0) {
                lengths[kept] = writeWord(words, base, parent, x);
            }
            kept++;
        }

        /** Takes the others out of the echelon's last line: its first place that is not 0, -1 if all are. */
        private int reduceLast(int prime) {
            int base = kept * MOST_WIDTH;
            for (int k = 0; k < kept; k++) {
                int line = k * MOST_WIDTH;
                long factor = echelon[base + pivots[k]];
                long scale = echelon[line + pivots[k]];
                for (int t = 0; factor != 0 && t < width; t++) {
                    echelon[base + t] = restOf(echelon[base + t] * scale - echelon[line + t] * factor, prime);
                }
            }
            for (int t = 0; t < width; t++) {
                if (echelon[base + t] != 0) {
                    return t;
                }
            }
            return -1;
        }

        /** Writes the signs of a row kept and x behind them: how many these are. */
        private int writeWord(int[] target, int from, int parent, int x) {
            int length = lengths[parent];
            for (int i = 0; i < length && from + i < target.length; i++) {
                target[from + i] = words[parent * MOST_WIDTH + i];
            }
            if (from + length < target.length) {
                target[from + length] = x;
            }
            return length + 1;
        }

        private void offerFound(int parent, int x) {
            if (foundLength == 0 || comesBeforeFound(parent, x)) {
                foundLength = writeWord(found, 0, parent, x);
            }
        }

        private boolean comesBeforeFound(int parent, int x) {
            int length = lengths[parent];
            if (length + 1 != foundLength) {
                return length + 1 < foundLength;
            }
            for (int i = 0; i < length; i++) {
                int sign = words[parent * MOST_WIDTH + i];
                if (sign != found[i]) {
                    return sign < found[i];
                }
            }
            return x < found[length];
        }
    }
}
