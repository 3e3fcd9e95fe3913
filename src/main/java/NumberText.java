/**
 * Numbers as text, both ways: numerals are read as the nearest binary number, binary numbers are
 * written short, to so many digits, to so many places or in full, and a table is laid out in
 * columns. All arithmetic is exact, on rows of nine decimal digits, and all memory is made with
 * the object.
 */
public final class NumberText {
    public static final int NONE = -1;

    private static final int TEXT_SIZE = 1200;
    private static final int MOST_TYPED = 8;
    private static final int FIRST_TYPEABLE = 32;
    private static final int LAST_TYPEABLE = 126;
    private static final int MOST_DIGITS = 17;
    private static final int MOST_PLACES = 40;
    private static final int TABLE_SIDE = 8;

    private static final long SIGN = 0x8000000000000000L;
    private static final long INFINITE = 0x7ff0000000000000L;
    private static final long NO_NUMBER = 0x7ff8000000000000L;
    private static final int FRACTION_BITS = 52;
    private static final int LEAST_POWER = -1074;

    private static final int LIMB = 1000000000;
    private static final int LIMB_DIGITS = 9;

    private final Text text;
    private final Numeral numeral;
    private final Writer writer;
    private final Table grid;
    private int wrongPlace;

    public NumberText() {
        text = new Text(TEXT_SIZE);
        // reading and writing never need it at once
        Fixed fixed = new Fixed();
        numeral = new Numeral(fixed);
        writer = new Writer(fixed);
        grid = new Table(writer);
        wrongPlace = NONE;
    }

    public int type(long characters, int n) {
        if (n < 1 || n > MOST_TYPED || text.length() + n > TEXT_SIZE) {
            return NONE;
        }
        for (int i = 0; i < n; i++) {
            int c = byteOf(characters, i);
            if (c < FIRST_TYPEABLE || c > LAST_TYPEABLE) {
                return NONE;
            }
        }
        for (int i = n - 1; i >= 0; i--) {
            text.add(byteOf(characters, i));
        }
        return text.length();
    }

    public int wipe() {
        int gone = text.length();
        text.clear();
        return gone;
    }

    public int character(int i) {
        return text.at(i);
    }

    public long read() throws IllegalArgumentException {
        int wrong = numeral.scan(text);
        if (wrong != NONE) {
            wrongPlace = wrong;
            throw new IllegalArgumentException("the text is no numeral");
        }
        text.clear();
        return numeral.bits();
    }

    public int place() {
        return wrongPlace;
    }

    public int write(long bits) {
        text.clear();
        writer.addShort(text, bits);
        return text.length();
    }

    public int digits(long bits, int n) throws IllegalArgumentException {
        if (n < 1 || n > MOST_DIGITS) {
            throw new IllegalArgumentException("digits are 1 to 17");
        }
        text.clear();
        writer.addRounded(text, bits, n);
        return text.length();
    }

    public int places(long bits, int p) throws IllegalArgumentException {
        if (p < 0 || p > MOST_PLACES) {
            throw new IllegalArgumentException("places are 0 to 40");
        }
        text.clear();
        writer.addToPlaces(text, bits, p);
        return text.length();
    }

    public int full(long bits) {
        text.clear();
        writer.addInFull(text, bits);
        return text.length();
    }

    public void table(int rows, int columns) throws IllegalArgumentException {
        if (rows < 1 || rows > TABLE_SIDE || columns < 1 || columns > TABLE_SIDE) {
            throw new IllegalArgumentException("rows and columns are 1 to 8");
        }
        grid.renew(rows, columns);
    }

    public void set(int row, int column, long bits) throws IndexOutOfBoundsException {
        if (!grid.has(row, column)) {
            throw new IndexOutOfBoundsException("no such row or column");
        }
        grid.put(row, column, bits);
    }

    public int layout(int n) throws IllegalArgumentException {
        if (n < 1 || n > MOST_DIGITS) {
            throw new IllegalArgumentException("digits are 1 to 17");
        }
        return grid.layOut(n);
    }

    public int shown(int row, int k) {
        return grid.lineCharacter(row, k);
    }

    private static int byteOf(long characters, int i) {
        return (int) (characters >>> (8 * i)) & 255;
    }

    private static boolean isFinite(long bits) {
        return (bits & INFINITE) != INFINITE;
    }

    private static boolean isNoNumber(long bits) {
        return (bits & ~SIGN) > INFINITE;
    }

    private static boolean isZero(long bits) {
        return (bits & ~SIGN) == 0;
    }

    private static int exponentField(long bits) {
        return (int) (bits >>> FRACTION_BITS) & 2047;
    }

    private static long fractionField(long bits) {
        return bits & ((1L << FRACTION_BITS) - 1);
    }

    /** A finite number without its sign is multiple(bits) * 2^power(bits). */
    private static long multiple(long bits) {
        long f = fractionField(bits);
        return exponentField(bits) == 0 ? f : f + (1L << FRACTION_BITS);
    }

    private static int power(long bits) {
        return LEAST_POWER + Math.max(0, exponentField(bits) - 1);
    }

    /** Characters in a row that was made once and is never outgrown. */
    private static final class Text {
        private final byte[] characters;
        private int length;

        Text(int size) {
            characters = new byte[Math.max(0, size)];
            length = 0;
        }

        int length() {
            return length;
        }

        void clear() {
            length = 0;
        }

        int at(int i) {
            return i >= 0 && i < length && i < characters.length ? characters[i] : NONE;
        }

        void add(int c) {
            if (length < characters.length) {
                characters[length] = (byte) c;
                length++;
            }
        }

        void addWord(int first, int second, int third) {
            add(first);
            add(second);
            add(third);
        }

        void addNumber(int number) {
            int left = number;
            if (left < 0) {
                add('-');
                left = -left;
            }
            if (left >= 100) {
                add('0' + left / 100 % 10);
            }
            if (left >= 10) {
                add('0' + left / 10 % 10);
            }
            add('0' + left % 10);
        }
    }

    /**
     * The value 0.d1 d2 .. times 10^point, without zeros in front or behind; without digits it
     * is 0, and its point is 0.
     */
    private static final class Decimal {
        private static final int LEAST_PLAIN = -3;
        private static final int MOST_PLAIN = 16;

        private final byte[] digits;
        private int count;
        private int point;

        Decimal(int size) {
            digits = new byte[Math.max(0, size)];
            count = 0;
            point = 0;
        }

        int count() {
            return count;
        }

        int point() {
            return point;
        }

        /** Digits in front of the first and behind the last one are zeros. */
        int digit(int i) {
            return i >= 0 && i < count && i < digits.length ? digits[i] : 0;
        }

        /** The digit that counts 10^weight. */
        int digitOf(int weight) {
            return digit(point - 1 - weight);
        }

        boolean endsAt(int weight) {
            return count <= point - weight;
        }

        boolean isPlain() {
            return point >= LEAST_PLAIN && point <= MOST_PLAIN;
        }

        /** The least p for which this is a multiple of 10^-p. */
        int leastPlaces() {
            return Math.max(0, count - point);
        }

        void clear() {
            count = 0;
            point = 0;
        }

        /** Adds a digit behind the others; zeros in front of all are left out. */
        void add(int digit) {
            if ((count > 0 || digit > 0) && count < digits.length) {
                digits[count] = (byte) digit;
                count++;
            }
        }

        /** Adds the nine digits of a limb in the same way. */
        void addLimb(int limb) {
            for (int ten = LIMB / 10; ten > 0; ten /= 10) {
                int digit = limb / ten % 10;
                if ((count > 0 || digit > 0) && count < digits.length) {
                    digits[count] = (byte) digit;
                    count++;
                }
            }
        }

        void movePoint(int by) {
            point += by;
        }

        void dropZerosBehind() {
            int last = count;
            for (int i = count; i > 0 && digit(i - 1) == 0; i--) {
                last = i - 1;
            }
            count = last;
            if (count == 0) {
                point = 0;
            }
        }

        /** Whether the nearest decimal of n digits (of two, the even one) is the one above. */
        boolean roundsUp(int n) {
            if (digit(n) != 5) {
                return digit(n) > 5;
            }
            return count > n + 1 || (digit(n - 1) & 1) != 0;
        }

        /** Leaves n digits: what is behind them is dropped, or they are counted up by one. */
        void cut(int n, boolean up) {
            if (n >= count || n < 0) {
                return;
            }
            count = n;
            if (up) {
                countUp();
            }
            dropZerosBehind();
        }

        private void countUp() {
            int i = count - 1;
            while (i >= 0 && digit(i) == 9) {
                i--;
            }
            count = i + 1;
            if (i >= 0 && i < digits.length) {
                digits[i]++;
            } else {
                point++;
                add(1);
            }
        }
    }

    /**
     * A value, exact, as a row of limbs of nine decimal digits, the highest first, with a point
     * at a fixed place. Those in use are from the first that is not 0 to the last that is not 0,
     * or to the point.
     */
    private static final class Fixed {
        // 10^310 in front of the point; behind it, at most, 890 places that were read, and one
        // more for each of the 1030 halvings that bring such a value to its first bits
        private static final int POINT = 35;
        private static final int PLACE_LIMBS = 220;
        // the most bits by which a limb can be shifted within a long
        private static final int MOST_BITS = 33;

        private final int[] limbs;
        private int first;
        private int end;

        Fixed() {
            limbs = new int[POINT + PLACE_LIMBS];
            first = POINT;
            end = POINT;
        }

        void setWhole(long whole) {
            first = POINT;
            end = POINT;
            for (long left = whole; left > 0 && first > 0; left /= LIMB) {
                first--;
                limbs[first] = (int) (left % LIMB);
            }
        }

        void setDecimal(Decimal decimal) {
            int point = decimal.point();
            first = Math.max(0, POINT + Math.floorDiv(-point, LIMB_DIGITS));
            int last = POINT + Math.floorDiv(decimal.count() - 1 - point, LIMB_DIGITS);
            end = Math.min(limbs.length, Math.max(POINT, last + 1));
            for (int i = first; i < end; i++) {
                limbs[i] = limbOf(decimal, (i - POINT) * LIMB_DIGITS + point);
            }
        }

        private static int limbOf(Decimal decimal, int from) {
            int limb = 0;
            for (int i = 0; i < LIMB_DIGITS; i++) {
                limb = 10 * limb + decimal.digit(from + i);
            }
            return limb;
        }

        void addTo(Decimal decimal) {
            for (int i = first; i < end && i < limbs.length; i++) {
                decimal.addLimb(limbs[i]);
            }
            decimal.movePoint(decimal.count() - (end - POINT) * LIMB_DIGITS);
        }

        /** Whether the whole part has so many limbs that head() does not tell it. */
        boolean isAboveHead() {
            return POINT - first > 2;
        }

        long head() {
            return limb(POINT - 2) * LIMB + limb(POINT - 1);
        }

        boolean hasPlaces() {
            return end > POINT;
        }

        private long limb(int i) {
            return i >= first && i < end && i < limbs.length ? limbs[i] : 0;
        }

        /** Times 2^power. */
        void scale(int power) {
            for (int left = power; left > 0; left -= MOST_BITS) {
                multiply(Math.min(left, MOST_BITS));
            }
            for (int left = -power; left > 0; left -= MOST_BITS) {
                divide(Math.min(left, MOST_BITS));
            }
        }

        private void multiply(int bits) {
            long carry = 0;
            for (int i = Math.min(end, limbs.length) - 1; i >= 0; i--) {
                if (i < first) {
                    if (carry == 0) {
                        break;
                    }
                    limbs[i] = 0;
                    first = i;
                }
                long product = ((long) limbs[i] << bits) + carry;
                carry = product / LIMB;
                limbs[i] = (int) (product - carry * LIMB);
            }
            while (end > POINT && limb(end - 1) == 0) {
                end--;
            }
        }

        private void divide(int bits) {
            long mask = (1L << bits) - 1;
            long left = 0;
            for (int i = Math.max(0, first); i < limbs.length; i++) {
                if (i >= end) {
                    if (left == 0) {
                        break;
                    }
                    limbs[i] = 0;
                    end = i + 1;
                }
                long dividend = left * LIMB + limbs[i];
                limbs[i] = (int) (dividend >>> bits);
                left = dividend & mask;
            }
            while (first < end && limb(first) == 0) {
                first++;
            }
        }
    }

    /** Adds numbers to a text, in the document's forms. */
    private static final class Writer {
        // the longest, of 2^-1076 times a number of 55 bits, has 769 digits, and its last limb
        // up to 8 zeros behind them
        private static final int EXACT_DIGITS = 780;

        private final Fixed fixed;
        private final Decimal decimal;
        // the bounds of what is read as the number
        private final Decimal low;
        private final Decimal high;

        Writer(Fixed fixed) {
            this.fixed = fixed;
            decimal = new Decimal(EXACT_DIGITS);
            low = new Decimal(EXACT_DIGITS);
            high = new Decimal(EXACT_DIGITS);
        }

        void addShort(Text text, long bits) {
            if (addsDigits(text, bits) && !addedZero(text, bits)) {
                findShort(bits);
                addDecimal(text, decimal.count());
            }
        }

        void addRounded(Text text, long bits, int n) {
            if (addsDigits(text, bits) && !addedZero(text, bits)) {
                expand(decimal, multiple(bits), power(bits));
                decimal.cut(n, decimal.roundsUp(n));
                addDecimal(text, n);
            }
        }

        void addToPlaces(Text text, long bits, int p) {
            if (addsDigits(text, bits)) {
                expand(decimal, multiple(bits), power(bits));
                int n = decimal.point() + p;
                if (n < 0) {
                    decimal.clear();
                } else {
                    decimal.cut(n, decimal.roundsUp(n));
                }
                addPlaces(text, p);
            }
        }

        void addInFull(Text text, long bits) {
            if (addsDigits(text, bits)) {
                expand(decimal, multiple(bits), power(bits));
                addPlaces(text, decimal.leastPlaces());
            }
        }

        /** What is written is left in decimal(), and 0 there for what has no digits. */
        void addScientific(Text text, long bits, int n) {
            decimal.clear();
            if (addsDigits(text, bits) && !addedZero(text, bits)) {
                expand(decimal, multiple(bits), power(bits));
                decimal.cut(n, decimal.roundsUp(n));
                addWithExponent(text, n);
            }
        }

        Decimal decimal() {
            return decimal;
        }

        /** Adds the sign, or all of what has no digits: whether digits have to follow. */
        private static boolean addsDigits(Text text, long bits) {
            if (isNoNumber(bits)) {
                text.addWord('n', 'a', 'n');
                return false;
            }
            if (bits < 0) {
                text.add('-');
            }
            if (!isFinite(bits)) {
                text.addWord('i', 'n', 'f');
                return false;
            }
            return true;
        }

        private static boolean addedZero(Text text, long bits) {
            if (isZero(bits)) {
                text.add('0');
            }
            return isZero(bits);
        }

        /** The result becomes m * 2^power, all its digits. */
        private void expand(Decimal result, long m, int power) {
            fixed.setWhole(m);
            fixed.scale(power);
            result.clear();
            fixed.addTo(result);
            result.dropZerosBehind();
        }

        /**
         * The bounds are half-way to the neighbours; the one below is half as far where the
         * power of 2 changes. Quarters of the number's unit make all of them whole multiples.
         */
        private void findShort(long bits) {
            long quarters = 4 * multiple(bits);
            int scale = power(bits) - 2;
            boolean nearBelow = fractionField(bits) == 0 && exponentField(bits) > 1;
            expand(low, quarters - (nearBelow ? 1 : 2), scale);
            expand(decimal, quarters, scale);
            expand(high, quarters + 2, scale);
            // a bound itself is read as the neighbour whose F is even
            shorten((fractionField(bits) & 1) == 0);
        }

        /** Cuts the decimal to the fewest digits that stay within the bounds. */
        private void shorten(boolean boundsCount) {
            int point = decimal.point();
            long lowest = 0;
            long down = 0;
            long highest = high.digitOf(point);
            for (int n = 1; n <= MOST_DIGITS; n++) {
                int weight = point - n;
                lowest = 10 * lowest + low.digitOf(weight);
                down = 10 * down + decimal.digitOf(weight);
                highest = 10 * highest + high.digitOf(weight);
                long up = down + 1;
                boolean downFits = down > lowest || boundsCount && low.endsAt(weight);
                boolean upFits = up < highest
                        || up == highest && (boundsCount || !high.endsAt(weight));
                if (downFits || upFits) {
                    decimal.cut(n, upFits && (!downFits || decimal.roundsUp(n)));
                    return;
                }
            }
        }

        private void addDecimal(Text text, int n) {
            if (decimal.isPlain()) {
                addPlaces(text, Math.max(0, n - decimal.point()));
            } else {
                addWithExponent(text, n);
            }
        }

        /** The whole part, and p places if there are any. */
        private void addPlaces(Text text, int p) {
            int point = decimal.point();
            if (point <= 0) {
                text.add('0');
            }
            addDigits(text, 0, point);
            if (p > 0) {
                text.add('.');
                addDigits(text, point, point + p);
            }
        }

        private void addWithExponent(Text text, int n) {
            addDigits(text, 0, 1);
            if (n > 1) {
                text.add('.');
                addDigits(text, 1, n);
            }
            text.add('e');
            text.addNumber(decimal.point() - 1);
        }

        private void addDigits(Text text, int from, int to) {
            for (int i = from; i < to; i++) {
                text.add('0' + decimal.digit(i));
            }
        }
    }

    /** Looks through a text by the grammar, and reads it. */
    private static final class Numeral {
        private static final int START = 0;
        private static final int SIGNED = 1;
        private static final int WHOLE = 2;
        private static final int BARE_POINT = 3;
        private static final int POINT = 4;
        private static final int PLACES = 5;
        private static final int EXPONENT = 6;
        private static final int EXPONENT_SIGNED = 7;
        private static final int EXPONENT_DIGITS = 8;
        private static final int I = 9;
        private static final int IN = 10;
        private static final int INF = 11;
        private static final int N = 12;
        private static final int NA = 13;
        private static final int NAN = 14;
        private static final int MOST_EXPONENT = 99999;

        private final Decimal decimal;
        private final Nearest nearest;
        private int state;
        private boolean negative;
        private boolean exponentNegative;
        private int exponent;

        Numeral(Fixed fixed) {
            decimal = new Decimal(TEXT_SIZE);
            nearest = new Nearest(fixed);
            state = START;
            negative = false;
            exponentNegative = false;
            exponent = 0;
        }

        /** Where the text is wrong; NONE if it is a numeral, which bits() reads then. */
        int scan(Text text) {
            state = START;
            negative = false;
            exponentNegative = false;
            exponent = 0;
            decimal.clear();
            for (int i = 0; i < text.length(); i++) {
                int c = text.at(i);
                int next = after(state, c);
                if (next == NONE) {
                    return i;
                }
                take(next, c);
                state = next;
            }
            return isEnd(state) ? NONE : text.length();
        }

        long bits() {
            long bits = NO_NUMBER;
            if (state == INF) {
                bits = INFINITE;
            } else if (state != NAN) {
                decimal.movePoint(exponentNegative ? -exponent : exponent);
                decimal.dropZerosBehind();
                bits = nearest.bits(decimal);
            }
            return negative ? bits | SIGN : bits;
        }

        private static boolean isEnd(int state) {
            return state == WHOLE || state == POINT || state == PLACES
                    || state == EXPONENT_DIGITS || state == INF || state == NAN;
        }

        private static boolean isDigit(int c) {
            return c >= '0' && c <= '9';
        }

        private static boolean isSign(int c) {
            return c == '+' || c == '-';
        }

        private static int after(int state, int c) {
            switch (state) {
                case START:
                    return isSign(c) ? SIGNED : c == 'n' ? N : afterSign(c);
                case SIGNED:
                    return afterSign(c);
                case WHOLE:
                    return isDigit(c) ? WHOLE : c == '.' ? POINT : exponentFor(c);
                case BARE_POINT:
                    return isDigit(c) ? PLACES : NONE;
                case POINT:
                case PLACES:
                    return isDigit(c) ? PLACES : exponentFor(c);
                case EXPONENT:
                    return isSign(c) ? EXPONENT_SIGNED : isDigit(c) ? EXPONENT_DIGITS : NONE;
                case EXPONENT_SIGNED:
                case EXPONENT_DIGITS:
                    return isDigit(c) ? EXPONENT_DIGITS : NONE;
                case I:
                    return c == 'n' ? IN : NONE;
                case IN:
                    return c == 'f' ? INF : NONE;
                case N:
                    return c == 'a' ? NA : NONE;
                case NA:
                    return c == 'n' ? NAN : NONE;
                default:
                    return NONE;
            }
        }

        private static int afterSign(int c) {
            return isDigit(c) ? WHOLE : c == '.' ? BARE_POINT : c == 'i' ? I : NONE;
        }

        private static int exponentFor(int c) {
            return c == 'e' || c == 'E' ? EXPONENT : NONE;
        }

        private void take(int next, int c) {
            if (next == SIGNED) {
                negative = c == '-';
            } else if (next == WHOLE) {
                decimal.add(c - '0');
                decimal.movePoint(decimal.count() > 0 ? 1 : 0);
            } else if (next == PLACES) {
                decimal.add(c - '0');
                decimal.movePoint(decimal.count() > 0 ? 0 : -1);
            } else if (next == EXPONENT_SIGNED) {
                exponentNegative = c == '-';
            } else if (next == EXPONENT_DIGITS) {
                exponent = Math.min(MOST_EXPONENT, 10 * exponent + c - '0');
            }
        }
    }

    /**
     * Finds the binary number nearest to a decimal: scales the value by powers of 2 until the
     * number's 53 bits, and one more that tells of the half, stand in front of the point.
     */
    private static final class Nearest {
        // beyond these points a value is infinite, or nearer to 0 than to any other number
        private static final int MOST_POINT = 310;
        private static final int LEAST_POINT = -324;
        private static final int HEAD_BITS = 54;
        private static final int LEAST_HEAD_POWER = LEAST_POWER - 1;
        private static final int MOST_HEAD_POWER = 970;
        private static final int STEP = 33;
        private static final int MOST_STEPS = 100;

        private final Fixed fixed;
        // the value is that of fixed times 2^power
        private int power;

        Nearest(Fixed fixed) {
            this.fixed = fixed;
            power = 0;
        }

        long bits(Decimal decimal) {
            if (decimal.count() == 0 || decimal.point() < LEAST_POINT) {
                return 0;
            }
            if (decimal.point() > MOST_POINT) {
                return INFINITE;
            }
            fixed.setDecimal(decimal);
            power = 0;
            scaleToHead();
            return power > MOST_HEAD_POWER ? INFINITE : rounded();
        }

        /** Until the head is full, or its unit is the least. */
        private void scaleToHead() {
            for (int i = 0; i < MOST_STEPS && fixed.isAboveHead(); i++) {
                raisePower(STEP);
            }
            for (int i = 0; i < MOST_STEPS; i++) {
                int length = 64 - Long.numberOfLeadingZeros(fixed.head());
                int room = Math.min(HEAD_BITS - length, power - LEAST_HEAD_POWER);
                if (room == 0) {
                    break;
                }
                raisePower(-Math.min(room, STEP));
            }
        }

        private void raisePower(int by) {
            fixed.scale(-by);
            power += by;
        }

        private long rounded() {
            long head = fixed.head();
            long m = head >>> 1;
            boolean half = (head & 1) != 0;
            if (half && (fixed.hasPlaces() || (m & 1) != 0)) {
                m++;
            }
            // m has the 2^52 of the document in it, which counts E up by one, or by two if
            // rounding made it 2^53
            return ((long) (power - LEAST_HEAD_POWER) << FRACTION_BITS) + m;
        }
    }

    /** The numbers of a table, and its lines as laid out latest. */
    private static final class Table {
        // '-', sixteen digits, '.' and twenty places are the longest text
        private static final int MOST_WIDTH = 38;
        private static final int GAP = 2;
        private static final int LINE_SIZE = TABLE_SIDE * (MOST_WIDTH + GAP);

        private final Writer writer;
        private final long[] numbers;
        private int rows;
        private int columns;
        // the texts of one column, one behind the other, and where each ends
        private final Text texts;
        private final int[] ends;
        private final byte[] lines;
        private int lineLength;

        Table(Writer writer) {
            this.writer = writer;
            numbers = new long[TABLE_SIDE * TABLE_SIDE];
            rows = 1;
            columns = 1;
            texts = new Text(TABLE_SIDE * MOST_WIDTH);
            ends = new int[TABLE_SIDE];
            lines = new byte[TABLE_SIDE * LINE_SIZE];
            lineLength = 0;
        }

        void renew(int newRows, int newColumns) {
            rows = newRows;
            columns = newColumns;
            lineLength = 0;
            for (int i = 0; i < numbers.length; i++) {
                numbers[i] = 0;
            }
        }

        boolean has(int row, int column) {
            return row >= 0 && row < rows && column >= 0 && column < columns;
        }

        void put(int row, int column, long bits) {
            int i = row * TABLE_SIDE + column;
            if (i >= 0 && i < numbers.length) {
                numbers[i] = bits;
            }
        }

        int lineCharacter(int row, int k) {
            if (row < 0 || row >= rows || k < 0 || k >= lineLength) {
                return NONE;
            }
            int i = row * LINE_SIZE + k;
            return i >= 0 && i < lines.length ? lines[i] : NONE;
        }

        int layOut(int n) {
            lineLength = 0;
            for (int column = 0; column < columns; column++) {
                int p = writeScientific(column, n);
                if (p != NONE) {
                    writeToPlaces(column, p);
                }
                addColumn(column > 0 ? GAP : 0);
            }
            return lineLength;
        }

        /** The places that the column has to be written to; NONE if it stays scientific. */
        private int writeScientific(int column, int n) {
            boolean plain = true;
            int p = 0;
            texts.clear();
            for (int row = 0; row < rows && row < ends.length; row++) {
                writer.addScientific(texts, number(row, column), n);
                ends[row] = texts.length();
                plain = plain && writer.decimal().isPlain();
                p = Math.max(p, writer.decimal().leastPlaces());
            }
            return plain ? p : NONE;
        }

        private void writeToPlaces(int column, int p) {
            texts.clear();
            for (int row = 0; row < rows && row < ends.length; row++) {
                writer.addToPlaces(texts, number(row, column), p);
                ends[row] = texts.length();
            }
        }

        private long number(int row, int column) {
            int i = row * TABLE_SIDE + column;
            return i >= 0 && i < numbers.length ? numbers[i] : 0;
        }

        /** Adds the texts to the lines, all as wide as the longest. */
        private void addColumn(int gap) {
            int width = 0;
            for (int row = 0; row < rows; row++) {
                width = Math.max(width, endOf(row) - endOf(row - 1));
            }
            int lineEnd = lineLength + gap + width;
            for (int row = 0; row < rows; row++) {
                int textFrom = lineEnd - (endOf(row) - endOf(row - 1));
                for (int k = lineLength; k < lineEnd; k++) {
                    int c = k < textFrom ? ' ' : texts.at(endOf(row) - lineEnd + k);
                    putLineCharacter(row, k, c);
                }
            }
            lineLength = lineEnd;
        }

        private int endOf(int row) {
            return row >= 0 && row < ends.length ? ends[row] : 0;
        }

        private void putLineCharacter(int row, int k, int c) {
            int i = row * LINE_SIZE + k;
            if (i >= 0 && i < lines.length) {
                lines[i] = (byte) c;
            }
        }
    }
}
