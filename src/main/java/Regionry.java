/**
 * A region algebra of marked text: letters are put, inserted and removed, regions of it marked by
 * kinds, and expressions tell sets of regions.
 *
 * The regions of a node are found in two ways that share nothing but the sets they are kept in:
 * 'gather' makes whole sets out of whole sets, 'ask' asks of each region of the text whether it is
 * one. All rows are made with the text and with the nodes, so that no question makes an object.
 */
public final class Regionry {
    public static final int OR = 0, AND = 1, BUT = 2, HOLDING = 3, BARE = 4, IN = 5, OUT = 6, AHEAD = 7, BEHIND = 8, SPAN = 9;

    private static final int MOST_LETTERS = 24;
    private static final int LETTERS = 6;
    private static final int KINDS = 4;
    private static final int MOST_NODES = 30;
    private static final int GREATEST_DEPTH = 6;
    private static final int WIDEST_GAP = 24;
    private static final int BEGINNING_WEIGHT = 100;
    private static final int BEYOND_ALL_ENDS = MOST_LETTERS + 1;

    private final Text text = new Text();
    private final Expression[] made = new Expression[MOST_NODES];
    private int count;

    public Regionry() {
        count = 0;
    }

    // ---- the text

    public int insert(int place, int letter) throws IndexOutOfBoundsException, IllegalArgumentException, IllegalStateException {
        return text.put(place, letter);
    }

    public int remove(int place) throws IndexOutOfBoundsException {
        return text.take(place);
    }

    public int length() {
        return text.size;
    }

    public int letterAt(int place) throws IndexOutOfBoundsException {
        return text.letterOf(place);
    }

    public boolean mark(int kind, int from, int to) throws IndexOutOfBoundsException, IllegalArgumentException {
        RegionSet marks = text.marksOf(kind);
        if (!text.isRegion(from, to)) {
            throw new IllegalArgumentException("no such region");
        }
        boolean isNew = !marks.contains(from, to);
        marks.add(from, to);
        return isNew;
    }

    public int unmark(int kind, int place) throws IndexOutOfBoundsException {
        RegionSet marks = text.marksOf(kind);
        int told = marks.told(place);
        if (told < 0) {
            throw new IndexOutOfBoundsException("no such marked region");
        }
        marks.drop(told / BEGINNING_WEIGHT, told % BEGINNING_WEIGHT);
        return marks.size();
    }

    // ---- expressions

    public int letter(int letter) throws IllegalArgumentException, IllegalStateException {
        if (!isLetter(letter)) {
            throw new IllegalArgumentException("no such letter");
        }
        requireRoom(1);
        return keep(new LetterExpression(count, letter));
    }

    public int marked(int kind) throws IndexOutOfBoundsException, IllegalStateException {
        RegionSet marks = text.marksOf(kind);
        requireRoom(1);
        return keep(new KindExpression(count, marks));
    }

    public int pair(int operation, int one, int other) throws IndexOutOfBoundsException, IllegalArgumentException, IllegalStateException {
        Expression first = expressionOf(one);
        Expression second = expressionOf(other);
        if (operation < OR || operation > SPAN) {
            throw new IllegalArgumentException("no such operation");
        }
        requireRoom(depthAbove(first, second));
        if (operation == SPAN) {
            return keep(new SpanExpression(count, first, second));
        }
        return keep(new PairExpression(count, operation, first, second));
    }

    public int near(int one, int other, int gap) throws IndexOutOfBoundsException, IllegalArgumentException, IllegalStateException {
        Expression first = expressionOf(one);
        Expression second = expressionOf(other);
        if (gap < 0 || gap > WIDEST_GAP) {
            throw new IllegalArgumentException("no such gap");
        }
        requireRoom(depthAbove(first, second));
        return keep(new NearExpression(count, first, second, gap));
    }

    public int only(int node, boolean isOuter) throws IndexOutOfBoundsException, IllegalStateException {
        Expression part = expressionOf(node);
        requireRoom(depthAbove(part, part));
        return keep(new OnlyExpression(count, part, isOuter));
    }

    public int nodes() {
        return count;
    }

    // ---- regions

    public int regions(int node) throws IndexOutOfBoundsException {
        return gatheredOf(node).size();
    }

    public int regionsOneByOne(int node) throws IndexOutOfBoundsException {
        return askedOf(node).size();
    }

    public int regionAt(int node, int place) throws IndexOutOfBoundsException {
        int told = gatheredOf(node).told(place);
        if (told < 0) {
            throw new IndexOutOfBoundsException("no such region");
        }
        return told;
    }

    public boolean has(int node, int from, int to) throws IndexOutOfBoundsException {
        return gatheredOf(node).contains(from, to);
    }

    public int covered(int node) throws IndexOutOfBoundsException {
        return gatheredOf(node).coveredPlaces();
    }

    public int longest(int node) throws IndexOutOfBoundsException {
        return gatheredOf(node).longestRegion();
    }

    public int deepest(int node) throws IndexOutOfBoundsException {
        return gatheredOf(node).deepestPlace();
    }

    // ---- the nodes behind the numbers

    private Expression expressionOf(int node) {
        if (node < 0 || node >= MOST_NODES || made[node] == null) {
            throw new IndexOutOfBoundsException("no such node");
        }
        return made[node];
    }

    private void requireRoom(int depth) {
        if (count >= MOST_NODES) {
            throw new IllegalStateException("no room for another node");
        }
        if (depth > GREATEST_DEPTH) {
            throw new IllegalStateException("too deep");
        }
    }

    private int keep(Expression expression) {
        int number = count;
        if (number >= 0 && number < MOST_NODES) {
            made[number] = expression;
            count = number + 1;
        }
        return number;
    }

    // The parts of a node have lower numbers than the node, so one pass in order finds each part
    // ahead of what is built on it, and each of them only once.
    private RegionSet gatheredOf(int node) {
        Expression wanted = expressionOf(node);
        for (int number = 0; number < MOST_NODES; number++) {
            Expression part = made[number];
            if (part != null && wanted.needs(number)) {
                part.gather(text);
            }
        }
        return wanted.gathered;
    }

    private RegionSet askedOf(int node) {
        Expression wanted = expressionOf(node);
        for (int number = 0; number < MOST_NODES; number++) {
            Expression part = made[number];
            if (part != null && wanted.needs(number)) {
                part.askEach(text);
            }
        }
        return wanted.asked;
    }

    private static boolean isLetter(int letter) {
        return letter >= 0 && letter < LETTERS;
    }

    private static int depthAbove(Expression one, Expression other) {
        return 1 + Math.max(one.depth, other.depth);
    }

    // The bits 0 to end: a shift by more than 31 would wrap, so both sides are cut off.
    private static int upTo(int end) {
        if (end < 0) {
            return 0;
        }
        return end > MOST_LETTERS ? -1 : (1 << (end + 1)) - 1;
    }

    private static int onwardFrom(int end) {
        return ~upTo(end - 1);
    }

    /** The letters, and the marked regions, which move with them. */
    private static final class Text {
        private final int[] letters = new int[MOST_LETTERS];
        private final RegionSet[] marks = new RegionSet[KINDS];
        private int size;

        Text() {
            for (int kind = 0; kind < marks.length; kind++) {
                marks[kind] = new RegionSet();
            }
        }

        int put(int place, int letter) {
            if (place < 0 || place > size) {
                throw new IndexOutOfBoundsException("no such place");
            }
            if (!isLetter(letter)) {
                throw new IllegalArgumentException("no such letter");
            }
            if (size >= MOST_LETTERS) {
                throw new IllegalStateException("no room for another letter");
            }
            for (int at = size; at > place; at--) {
                letters[at] = letters[at - 1];
            }
            letters[place] = letter;
            size++;
            for (int kind = 0; kind < marks.length; kind++) {
                marksOf(kind).openAt(place);
            }
            return size;
        }

        int take(int place) {
            int letter = letterOf(place);
            size--;
            for (int at = place; at < size && at + 1 < letters.length; at++) {
                letters[at] = letters[at + 1];
            }
            for (int kind = 0; kind < marks.length; kind++) {
                marksOf(kind).closeAt(place);
            }
            return letter;
        }

        int letterOf(int place) {
            if (!isPlace(place)) {
                throw new IndexOutOfBoundsException("no such place");
            }
            return letters[place];
        }

        boolean isAt(int letter, int place) {
            return isPlace(place) && letters[place] == letter;
        }

        boolean isPlace(int place) {
            return place >= 0 && place < size && place < letters.length;
        }

        boolean isRegion(int from, int to) {
            return isPlace(from) && to > from && to <= size;
        }

        RegionSet marksOf(int kind) {
            if (kind < 0 || kind >= marks.length || marks[kind] == null) {
                throw new IndexOutOfBoundsException("no such kind");
            }
            return marks[kind];
        }
    }

    /** A set of regions: a row for each beginning, in it bit e for the end e. */
    private static final class RegionSet {
        private final int[] rows = new int[MOST_LETTERS];

        int row(int from) {
            return from >= 0 && from < rows.length ? rows[from] : 0;
        }

        void setRow(int from, int ends) {
            if (from >= 0 && from < rows.length) {
                rows[from] = ends;
            }
        }

        boolean contains(int from, int to) {
            return from >= 0 && from < rows.length && to > from && to <= MOST_LETTERS && (rows[from] & (1 << to)) != 0;
        }

        void add(int from, int to) {
            if (from >= 0 && from < rows.length && to > from && to <= MOST_LETTERS) {
                rows[from] |= 1 << to;
            }
        }

        void drop(int from, int to) {
            if (contains(from, to)) {
                setRow(from, row(from) & ~(1 << to));
            }
        }

        void clear() {
            for (int from = 0; from < rows.length; from++) {
                rows[from] = 0;
            }
        }

        void takeOver(RegionSet other) {
            for (int from = 0; from < rows.length; from++) {
                rows[from] = other.row(from);
            }
        }

        int size() {
            int size = 0;
            for (int from = 0; from < rows.length; from++) {
                size += Integer.bitCount(rows[from]);
            }
            return size;
        }

        // The region with this place in the order, told as one number; -1 if there is none.
        int told(int place) {
            int ahead = 0;
            for (int from = 0; from < MOST_LETTERS; from++) {
                for (int to = from + 1; to <= MOST_LETTERS; to++) {
                    if (contains(from, to)) {
                        if (ahead == place) {
                            return BEGINNING_WEIGHT * from + to;
                        }
                        ahead++;
                    }
                }
            }
            return -1;
        }

        int lowestEnd(int from) {
            int ends = row(from);
            int end = from + 1;
            while (end < BEYOND_ALL_ENDS && (ends & (1 << end)) == 0) {
                end++;
            }
            return end;
        }

        // 0, which is no end, for a row without regions.
        int highestEnd(int from) {
            int ends = row(from);
            int end = MOST_LETTERS;
            while (end > 0 && (ends & (1 << end)) == 0) {
                end--;
            }
            return end;
        }

        int regionsOver(int place) {
            int over = 0;
            for (int from = 0; from <= place; from++) {
                over += Integer.bitCount(row(from) & onwardFrom(place + 1));
            }
            return over;
        }

        int coveredPlaces() {
            int places = 0;
            for (int place = 0; place < MOST_LETTERS; place++) {
                if (regionsOver(place) > 0) {
                    places++;
                }
            }
            return places;
        }

        int deepestPlace() {
            int most = 0;
            for (int place = 0; place < MOST_LETTERS; place++) {
                most = Math.max(most, regionsOver(place));
            }
            return most;
        }

        int longestRegion() {
            int most = 0;
            for (int from = 0; from < rows.length; from++) {
                most = Math.max(most, highestEnd(from) - from);
            }
            return most;
        }

        void openAt(int place) {
            for (int from = rows.length - 1; from > place; from--) {
                setRow(from, endsOpenedAt(place, row(from - 1)));
            }
            setRow(place, 0);
            for (int from = 0; from < rows.length && from < place; from++) {
                rows[from] = endsOpenedAt(place, rows[from]);
            }
        }

        void closeAt(int place) {
            for (int from = 0; from < rows.length; from++) {
                int staying = from <= place ? row(from) : 0;
                int moving = from >= place ? row(from + 1) : 0;
                // A region of the removed place alone now ends where it begins: it is none.
                rows[from] = endsClosedAt(place, staying | moving) & onwardFrom(from + 1);
            }
        }

        private static int endsOpenedAt(int place, int ends) {
            return (ends & upTo(place)) | ((ends & onwardFrom(place + 1)) << 1);
        }

        private static int endsClosedAt(int place, int ends) {
            return (ends & upTo(place)) | ((ends & onwardFrom(place + 1)) >>> 1);
        }

        // The regions from the beginning of one of the ones to the end of one of the others.
        void join(RegionSet ones, RegionSet others, int gap) {
            for (int from = 0; from < rows.length; from++) {
                rows[from] = 0;
                for (int begin = from + 1; begin < rows.length; begin++) {
                    int endsInReach = upTo(begin) & onwardFrom(begin - gap);
                    if ((ones.row(from) & endsInReach) != 0) {
                        rows[from] |= others.row(begin);
                    }
                }
            }
        }

        // Of one row only the shortest region can be an inner one, and it is if no row behind it
        // has a region that ends by then. From the back, so that the rows behind are known.
        void keepInner() {
            int nearest = BEYOND_ALL_ENDS;
            for (int from = rows.length - 1; from >= 0; from--) {
                int lowest = lowestEnd(from);
                rows[from] = lowest < nearest ? 1 << lowest : 0;
                nearest = Math.min(nearest, lowest);
            }
        }

        void keepOuter() {
            int farthest = 0;
            for (int from = 0; from < rows.length; from++) {
                int highest = highestEnd(from);
                rows[from] = highest > farthest ? 1 << highest : 0;
                farthest = Math.max(farthest, highest);
            }
        }

        int countWithin(int lowFrom, int highFrom, int lowTo, int highTo) {
            int within = 0;
            for (int from = lowFrom; from <= highFrom; from++) {
                for (int to = Math.max(lowTo, from + 1); to <= highTo; to++) {
                    if (contains(from, to)) {
                        within++;
                    }
                }
            }
            return within;
        }

        int countLyingIn(int from, int to) {
            return countWithin(from, to - 1, from + 1, to);
        }

        int countLyingRound(int from, int to) {
            return countWithin(0, from, to, MOST_LETTERS);
        }

        static boolean isJoined(RegionSet ones, RegionSet others, int gap, int from, int to) {
            for (int end = from + 1; end < to; end++) {
                int lastBegin = Math.min(end + gap, to - 1);
                if (ones.contains(from, end) && others.countWithin(end, lastBegin, to, to) > 0) {
                    return true;
                }
            }
            return false;
        }
    }

    /** A node, with its regions as each of the two ways has found them last. */
    private abstract static class Expression {
        final int depth;
        // A bit for each node that must be found for this one, its own among them.
        final int needed;
        final RegionSet gathered = new RegionSet();
        final RegionSet asked = new RegionSet();

        Expression(int number, int depth, int neededByParts) {
            this.depth = depth;
            this.needed = neededByParts | (1 << number);
        }

        boolean needs(int number) {
            return (needed & (1 << number)) != 0;
        }

        abstract void gather(Text text);

        abstract boolean isOne(Text text, int from, int to);

        void askEach(Text text) {
            asked.clear();
            for (int from = 0; from < text.size; from++) {
                for (int to = from + 1; to <= text.size; to++) {
                    if (isOne(text, from, to)) {
                        asked.add(from, to);
                    }
                }
            }
        }
    }

    private static final class LetterExpression extends Expression {
        private final int sought;

        LetterExpression(int number, int sought) {
            super(number, 1, 0);
            this.sought = sought;
        }

        void gather(Text text) {
            gathered.clear();
            for (int from = 0; from < text.size; from++) {
                if (text.isAt(sought, from)) {
                    gathered.add(from, from + 1);
                }
            }
        }

        boolean isOne(Text text, int from, int to) {
            return to == from + 1 && text.isAt(sought, from);
        }
    }

    private static final class KindExpression extends Expression {
        private final RegionSet marks;

        KindExpression(int number, RegionSet marks) {
            super(number, 1, 0);
            this.marks = marks;
        }

        void gather(Text text) {
            gathered.takeOver(marks);
        }

        boolean isOne(Text text, int from, int to) {
            return marks.contains(from, to);
        }
    }

    /** A pair by any operation but SPAN. */
    private static final class PairExpression extends Expression {
        private final int operation;
        private final Expression one;
        private final Expression other;

        PairExpression(int number, int operation, Expression one, Expression other) {
            super(number, depthAbove(one, other), one.needed | other.needed);
            this.operation = operation;
            this.one = one;
            this.other = other;
        }

        void gather(Text text) {
            switch (operation) {
                case HOLDING:
                    gatherByHolding(true);
                    break;
                case BARE:
                    gatherByHolding(false);
                    break;
                case IN:
                    gatherByLying(true);
                    break;
                case OUT:
                    gatherByLying(false);
                    break;
                case AHEAD:
                    gatherAhead();
                    break;
                case BEHIND:
                    gatherBehind();
                    break;
                default:
                    gatherRowByRow();
                    break;
            }
        }

        private void gatherRowByRow() {
            for (int from = 0; from < MOST_LETTERS; from++) {
                int ends = one.gathered.row(from);
                int otherEnds = other.gathered.row(from);
                if (operation == OR) {
                    gathered.setRow(from, ends | otherEnds);
                } else if (operation == AND) {
                    gathered.setRow(from, ends & otherEnds);
                } else {
                    gathered.setRow(from, ends & ~otherEnds);
                }
            }
        }

        // A region holds one of B if the nearest end of those that begin in it or behind is not
        // behind its own end.
        private void gatherByHolding(boolean isHolding) {
            int nearest = BEYOND_ALL_ENDS;
            for (int from = MOST_LETTERS - 1; from >= 0; from--) {
                nearest = Math.min(nearest, other.gathered.lowestEnd(from));
                int holding = onwardFrom(nearest);
                gathered.setRow(from, one.gathered.row(from) & (isHolding ? holding : ~holding));
            }
        }

        private void gatherByLying(boolean isLying) {
            int farthest = 0;
            for (int from = 0; from < MOST_LETTERS; from++) {
                farthest = Math.max(farthest, other.gathered.highestEnd(from));
                int lying = upTo(farthest);
                gathered.setRow(from, one.gathered.row(from) & (isLying ? lying : ~lying));
            }
        }

        private void gatherAhead() {
            int lastBeginning = MOST_LETTERS - 1;
            while (lastBeginning >= 0 && other.gathered.row(lastBeginning) == 0) {
                lastBeginning--;
            }
            for (int from = 0; from < MOST_LETTERS; from++) {
                gathered.setRow(from, one.gathered.row(from) & upTo(lastBeginning));
            }
        }

        private void gatherBehind() {
            int firstEnd = BEYOND_ALL_ENDS;
            for (int from = 0; from < MOST_LETTERS; from++) {
                firstEnd = Math.min(firstEnd, other.gathered.lowestEnd(from));
            }
            for (int from = 0; from < MOST_LETTERS; from++) {
                gathered.setRow(from, from >= firstEnd ? one.gathered.row(from) : 0);
            }
        }

        boolean isOne(Text text, int from, int to) {
            RegionSet others = other.asked;
            boolean isOfOne = one.asked.contains(from, to);
            if (operation == OR) {
                return isOfOne || others.contains(from, to);
            }
            if (!isOfOne) {
                return false;
            }
            switch (operation) {
                case AND:
                    return others.contains(from, to);
                case BUT:
                    return !others.contains(from, to);
                case HOLDING:
                    return others.countLyingIn(from, to) > 0;
                case BARE:
                    return others.countLyingIn(from, to) == 0;
                case IN:
                    return others.countLyingRound(from, to) > 0;
                case OUT:
                    return others.countLyingRound(from, to) == 0;
                case AHEAD:
                    return others.countWithin(to, MOST_LETTERS - 1, to + 1, MOST_LETTERS) > 0;
                default:
                    return others.countWithin(0, from - 1, 1, from) > 0;
            }
        }
    }

    private static final class NearExpression extends Expression {
        private final Expression one;
        private final Expression other;
        private final int gap;

        NearExpression(int number, Expression one, Expression other, int gap) {
            super(number, depthAbove(one, other), one.needed | other.needed);
            this.one = one;
            this.other = other;
            this.gap = gap;
        }

        void gather(Text text) {
            gathered.join(one.gathered, other.gathered, gap);
        }

        boolean isOne(Text text, int from, int to) {
            return RegionSet.isJoined(one.asked, other.asked, gap, from, to);
        }
    }

    /** A pair by SPAN: what a near pair with a gap as wide as any text has, and of it the inner ones. */
    private static final class SpanExpression extends Expression {
        private final Expression one;
        private final Expression other;
        // Kept aside, as each region is asked whether another one of these lies in it.
        private final RegionSet joined = new RegionSet();

        SpanExpression(int number, Expression one, Expression other) {
            super(number, depthAbove(one, other), one.needed | other.needed);
            this.one = one;
            this.other = other;
        }

        void gather(Text text) {
            gathered.join(one.gathered, other.gathered, WIDEST_GAP);
            gathered.keepInner();
        }

        void askEach(Text text) {
            joined.clear();
            for (int from = 0; from < text.size; from++) {
                for (int to = from + 1; to <= text.size; to++) {
                    if (RegionSet.isJoined(one.asked, other.asked, WIDEST_GAP, from, to)) {
                        joined.add(from, to);
                    }
                }
            }
            super.askEach(text);
        }

        boolean isOne(Text text, int from, int to) {
            // A region lies in itself: if it is the only one to do so, no other one does.
            return joined.contains(from, to) && joined.countLyingIn(from, to) == 1;
        }
    }

    private static final class OnlyExpression extends Expression {
        private final Expression part;
        private final boolean isOuter;

        OnlyExpression(int number, Expression part, boolean isOuter) {
            super(number, depthAbove(part, part), part.needed);
            this.part = part;
            this.isOuter = isOuter;
        }

        void gather(Text text) {
            gathered.takeOver(part.gathered);
            if (isOuter) {
                gathered.keepOuter();
            } else {
                gathered.keepInner();
            }
        }

        boolean isOne(Text text, int from, int to) {
            // The region is one of those that lie in it, and one of those that it lies in.
            return part.asked.contains(from, to)
                && (isOuter ? part.asked.countLyingRound(from, to) : part.asked.countLyingIn(from, to)) == 1;
        }
    }
}
