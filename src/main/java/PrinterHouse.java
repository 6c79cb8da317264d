import java.util.Arrays;

/**
 * A house that prints: the parts of a job are streams in a page printer's language or picture
 * files in the fax code of Group 4; what comes is one picture file of all pages in that code.
 */
public final class PrinterHouse {
    public static final int NONE = -1;

    private static final int TAPE_MOST = 8000;
    private static final int FEED_BYTES = 20;
    private static final int PARTS_MOST = 6;
    private static final int JOB_MOST = 12000;
    private static final int ROWS_MOST = 800;
    private static final int PAGES_MOST = 12;
    private static final int STREAM = 0;
    private static final int PICTURES = 1;
    private static final int MUCH = 1;
    /** Far above what any run can need: the bound of loops whose end lies in the data. */
    private static final int TURNS_MOST = 1000000;

    private static final int UNITS = 96;
    private static final int[] FORMAT_WIDE = {200, 320, 480, 640};
    private static final int[] FORMAT_HIGH = {240, 400, 640, 800};

    /** How many words of 32 dots a row has, in the pages that came. */
    private static final int STRIDE = 20;

    /** The RUNS' codes: 64 white ones of 0 .. 63, ten of 64 .. 640, then as many black ones. */
    private static final int RUNS = 74;
    private static final int SMALL_RUNS = 64;
    private static final int RUN_BITS_MOST = 13;
    private static final int[] RUN_BITS = {
        8, 6, 4, 4, 4, 4, 4, 4, 5, 5, 5, 5, 6, 6, 6, 6, 6, 6, 7, 7, 7, 7, 7, 7, 7, 7, 7, 7, 7,
        8, 8, 8, 8, 8, 8, 8, 8, 8, 8, 8, 8, 8, 8, 8, 8, 8, 8, 8, 8, 8, 8, 8, 8, 8, 8, 8, 8, 8,
        8, 8, 8, 8, 8, 8, 5, 5, 6, 7, 8, 8, 8, 8, 8, 8,
        10, 3, 2, 2, 3, 4, 4, 5, 6, 6, 7, 7, 7, 8, 8, 9, 10, 10, 10, 11, 11, 11, 11, 11, 11, 11,
        12, 12, 12, 12, 12, 12, 12, 12, 12, 12, 12, 12, 12, 12, 12, 12, 12, 12, 12, 12, 12, 12,
        12, 12, 12, 12, 12, 12, 12, 12, 12, 12, 12, 12, 12, 12, 12, 12, 10, 12, 12, 12, 12, 12,
        12, 13, 13, 13};
    private static final int[] RUN_CODES = {
        0x35, 0x7, 0x7, 0x8, 0xb, 0xc, 0xe, 0xf, 0x13, 0x14, 0x7, 0x8, 0x8, 0x3, 0x34, 0x35,
        0x2a, 0x2b, 0x27, 0xc, 0x8, 0x17, 0x3, 0x4, 0x28, 0x2b, 0x13, 0x24, 0x18, 0x2, 0x3,
        0x1a, 0x1b, 0x12, 0x13, 0x14, 0x15, 0x16, 0x17, 0x28, 0x29, 0x2a, 0x2b, 0x2c, 0x2d, 0x4,
        0x5, 0xa, 0xb, 0x52, 0x53, 0x54, 0x55, 0x24, 0x25, 0x58, 0x59, 0x5a, 0x5b, 0x4a, 0x4b,
        0x32, 0x33, 0x34, 0x1b, 0x12, 0x17, 0x37, 0x36, 0x37, 0x64, 0x65, 0x68, 0x67,
        0x37, 0x2, 0x3, 0x2, 0x3, 0x3, 0x2, 0x3, 0x5, 0x4, 0x4, 0x5, 0x7, 0x4, 0x7, 0x18, 0x17,
        0x18, 0x8, 0x67, 0x68, 0x6c, 0x37, 0x28, 0x17, 0x18, 0xca, 0xcb, 0xcc, 0xcd, 0x68, 0x69,
        0x6a, 0x6b, 0xd2, 0xd3, 0xd4, 0xd5, 0xd6, 0xd7, 0x6c, 0x6d, 0xda, 0xdb, 0x54, 0x55,
        0x56, 0x57, 0x64, 0x65, 0x52, 0x53, 0x24, 0x37, 0x38, 0x27, 0x28, 0x58, 0x59, 0x2b,
        0x2c, 0x5a, 0x66, 0x67, 0xf, 0xc8, 0xc9, 0x5b, 0x33, 0x34, 0x35, 0x6c, 0x6d, 0x4a};

    /** The codes that put a0 at b1 and -3 .. 3 more. */
    private static final int[] NEAR_BITS = {7, 6, 3, 1, 3, 6, 7};
    private static final int[] NEAR_CODES = {2, 2, 2, 1, 3, 3, 3};
    private static final int NEAR_MOST = 3;
    private static final int PASS_BITS = 4;
    private static final int TWO_RUNS_BITS = 3;

    private static final int TAG_WIDE = 256;
    private static final int TAG_HIGH = 257;
    private static final int TAG_DOT_BITS = 258;
    private static final int TAG_CODE = 259;
    private static final int TAG_COLOURS = 262;
    private static final int TAG_BIT_ORDER = 266;
    private static final int TAG_STRIP_PLACES = 273;
    private static final int TAG_DOT_PARTS = 277;
    private static final int TAG_STRIP_ROWS = 278;
    private static final int TAG_STRIP_LENGTHS = 279;
    private static final int TAG_ACROSS_INCH = 282;
    private static final int TAG_DOWN_INCH = 283;
    private static final int TAG_CODE_WAYS = 293;
    private static final int TAG_INCH = 296;
    private static final int SHORT = 3;
    private static final int LONG = 4;
    private static final int RATIO = 5;

    private final byte[] tape = new byte[TAPE_MOST];
    private int taped;
    private final byte[] job = new byte[JOB_MOST];
    private final int[] sorts = new int[PARTS_MOST];
    private final int[] starts = new int[PARTS_MOST + 1];
    private int parts;
    private final Sheaf sheaf;
    private final Streams streams;
    private final Pictures pictures;
    private int faultSort;
    private int faultPart = NONE;
    private int faultPlace = NONE;

    public PrinterHouse() {
        sheaf = new Sheaf();
        streams = new Streams(sheaf);
        pictures = new Pictures(sheaf);
    }

    public int feed(int a, int b, int c, int d, int e) {
        if (taped + FEED_BYTES > TAPE_MOST) {
            return NONE;
        }
        feedNumber(a);
        feedNumber(b);
        feedNumber(c);
        feedNumber(d);
        feedNumber(e);
        return taped;
    }

    private void feedNumber(int number) {
        for (int shift = 24; shift >= 0; shift -= 8) {
            if (taped >= 0 && taped < tape.length) {
                tape[taped] = (byte) (number >> shift);
                taped++;
            }
        }
    }

    public int cut(int n) {
        if (n < 0 || n > taped) {
            return NONE;
        }
        int went = taped - n;
        taped = n;
        return went;
    }

    public int part(int sort) {
        int size = taped;
        taped = 0;
        if ((sort != STREAM && sort != PICTURES) || parts < 0 || parts >= PARTS_MOST) {
            return NONE;
        }
        int from = starts[parts];
        if (from + size > JOB_MOST) {
            return NONE;
        }
        System.arraycopy(tape, 0, job, from, size);
        sorts[parts] = sort;
        parts++;
        starts[parts] = from + size;
        return parts;
    }

    public int drop() {
        int had = parts;
        parts = 0;
        return had;
    }

    public int print(int band) {
        if (band < 1 || band > ROWS_MOST) {
            return NONE;
        }
        faultSort = 0;
        faultPart = NONE;
        faultPlace = NONE;
        sheaf.clear();
        streams.startJob();
        for (int i = 0; i < parts && i < PARTS_MOST && faultSort == 0; i++) {
            if (sorts[i] == STREAM) {
                streams.run(job, starts[i], starts[i + 1]);
                faultSort = streams.isMuch() ? MUCH : 0;
            } else {
                pictures.read(job, starts[i], starts[i + 1]);
                faultSort = pictures.fault;
                faultPlace = pictures.faultPlace;
            }
            faultPart = faultSort == 0 ? NONE : i;
        }
        parts = 0;
        if (faultSort == 0) {
            return sheaf.pages;
        }
        sheaf.clear();
        streams.dropTemporary();
        return -10 - faultSort;
    }

    public int fault(int what) {
        switch (what) {
            case 0:
                return faultSort;
            case 1:
                return faultPart;
            case 2:
                return faultPlace;
            default:
                return NONE;
        }
    }

    public int outs() {
        return sheaf.size;
    }

    public int out(int i) {
        return sheaf.byteAt(i);
    }

    public int sum() {
        return sheaf.sumOfBytes();
    }

    public int take() {
        int size = sheaf.size;
        if (size > TAPE_MOST) {
            return NONE;
        }
        System.arraycopy(sheaf.bytes, 0, tape, 0, size);
        taped = size;
        return taped;
    }

    public int pages() {
        return sheaf.pages;
    }

    public int width(int p) {
        return sheaf.hasPage(p) ? sheaf.wides[p] : NONE;
    }

    public int height(int p) {
        return sheaf.hasPage(p) ? sheaf.highs[p] : NONE;
    }

    public int dot(int p, int x, int y) {
        if (!sheaf.hasRow(p, y) || x < 0 || x >= sheaf.wides[p]) {
            return NONE;
        }
        return dotAt(sheaf.dots[p], y * STRIDE, x);
    }

    public int black(int p, int y) {
        return sheaf.hasRow(p, y) ? sheaf.blackDots(p, y) : NONE;
    }

    public int state(int what) {
        return streams.lastState(what);
    }

    public int held(int what) {
        return streams.number(what);
    }

    public int off() {
        return streams.dropAll();
    }

    // Rows of dots: words of 32, the highest bit first; a row NONE is a white one.

    private static int dotAt(int[] dots, int row, int x) {
        int word = row + (x >> 5);
        if (row < 0 || x < 0 || word < 0 || word >= dots.length) {
            return 0;
        }
        return (dots[word] >>> (31 - (x & 31))) & 1;
    }

    private static int zerosAhead(int word) {
        int filled = word | word >>> 1;
        filled |= filled >>> 2;
        filled |= filled >>> 4;
        filled |= filled >>> 8;
        filled |= filled >>> 16;
        return 32 - Integer.bitCount(filled);
    }

    /** The first dot from one on that is of another colour; the width, if there is none. */
    private static int firstOther(int[] dots, int row, int from, int wide, int colour) {
        if (from < 0 || from >= wide) {
            return wide;
        }
        if (row < 0) {
            return colour == 0 ? wide : from;
        }
        int last = row + ((wide - 1) >> 5);
        if (last < 0 || last >= dots.length) {
            return wide;
        }
        int flip = -colour;
        int word = row + (from >> 5);
        int bits = (dots[word] ^ flip) & (-1 >>> (from & 31));
        while (bits == 0 && word < last) {
            word++;
            bits = dots[word] ^ flip;
        }
        return bits == 0 ? wide : Math.min(wide, ((word - row) << 5) + zerosAhead(bits));
    }

    /** The code's b1: the first dot right of a0 where another colour than a0's begins. */
    private static int firstChange(int[] dots, int row, int a0, int wide, int colour) {
        int from = a0 + 1;
        int left = from == 0 ? 0 : dotAt(dots, row, from - 1);
        int start = left == colour ? from : firstOther(dots, row, from, wide, 1 - colour);
        return firstOther(dots, row, start, wide, colour);
    }

    /** The bits of a row's word that lie from one dot on and ahead of another. */
    private static int maskOf(int word, int from, int to) {
        int start = Math.max(from - (word << 5), 0);
        int end = Math.min(to - (word << 5), 32);
        return start >= end ? 0 : (-1 >>> start) & (-1 << (32 - end));
    }

    private static void blacken(int[] dots, int row, int from, int to) {
        if (row < 0 || from < 0 || from >= to) {
            return;
        }
        int last = (to - 1) >> 5;
        if (row + last >= dots.length) {
            return;
        }
        for (int word = from >> 5; word <= last; word++) {
            dots[row + word] |= maskOf(word, from, to);
        }
    }

    /** Bytes that are gone through one by one: a part of the job, or a macro. */
    private static final class Reading {
        private static final int VALUE_MOST = 32767;
        private static final int PARTS = 10000;

        private byte[] bytes = new byte[0];
        private int at;
        private int end;
        /** The byte behind 27 of the SEQUENCE whose FIELDS come; 0 outside of one. */
        private int kind;
        private int group;
        private int letter;
        private boolean closing;
        private boolean signed;
        private boolean negative;
        private int whole;
        private int behindPoint;
        private int dataFrom;
        private int dataSize;

        void open(byte[] from, int start, int stop) {
            bytes = from;
            at = Math.max(start, 0);
            end = Math.min(stop, from.length);
            kind = 0;
        }

        boolean hasMore() {
            return at < end;
        }

        int byteAt(int i) {
            return i >= 0 && i < end && i < bytes.length ? bytes[i] & 255 : NONE;
        }

        int next() {
            return byteAt(at);
        }

        private boolean isDigit(int i) {
            int code = byteAt(i);
            return code >= '0' && code <= '9';
        }

        /** How many bytes the VALUE has that stands here. */
        int readValue() {
            int i = at;
            int sign = byteAt(i);
            negative = sign == '-';
            signed = negative || sign == '+';
            if (signed) {
                i++;
            }
            whole = 0;
            behindPoint = 0;
            for (; i < end && isDigit(i); i++) {
                whole = Math.min(10 * whole + byteAt(i) - '0', VALUE_MOST);
            }
            if (byteAt(i) == '.') {
                i++;
                int weight = PARTS / 10;
                for (; i < end && isDigit(i); i++) {
                    behindPoint += (byteAt(i) - '0') * weight;
                    weight /= 10;
                }
            }
            return i - at;
        }

        int n() {
            return negative ? -whole : whole;
        }

        /** The VALUE as a number of ten-thousandths. */
        long exact() {
            long size = (long) whole * PARTS + behindPoint;
            return negative ? -size : size;
        }

        long units(int each) {
            return exact() * each / PARTS;
        }

        int dataByte(int i) {
            int at = dataFrom + i;
            return i >= 0 && i < dataSize && at >= 0 && at < bytes.length ? bytes[at] & 255 : 0;
        }

        int dataTwo(int i) {
            return dataByte(i) << 8 | dataByte(i + 1);
        }
    }

    /** The logical page's measures, its margins, and the place on it. */
    private static final class Sheet {
        private static final int PLACES_MOST = 20;
        private static final int FIRST_VMI = 1200;
        private static final int FIRST_HMI = 720;

        private int format;
        private int orientation;
        private int left;
        private int right;
        private int top;
        private int bottom;
        private int x;
        private int y;
        private int vmi;
        private int hmi;
        private int back;
        private int kept;
        private final int[] places = new int[2 * PLACES_MOST];

        void copy(Sheet other) {
            format = other.format;
            orientation = other.orientation;
            left = other.left;
            right = other.right;
            top = other.top;
            bottom = other.bottom;
            x = other.x;
            y = other.y;
            vmi = other.vmi;
            hmi = other.hmi;
            back = other.back;
            kept = other.kept;
            System.arraycopy(other.places, 0, places, 0, places.length);
        }

        void reset() {
            vmi = FIRST_VMI;
            hmi = FIRST_HMI;
            back = 0;
            kept = 0;
        }

        /** The page's own things anew, of a page of this format and orientation. */
        void turn(int newFormat, int newOrientation) {
            format = newFormat;
            orientation = newOrientation;
            top = 0;
            bottom = down();
            clearMargins();
            moveX(left);
            homeY();
        }

        void clearMargins() {
            left = 0;
            right = across();
        }

        int pageWide() {
            return FORMAT_WIDE[format & 3];
        }

        int pageHigh() {
            return FORMAT_HIGH[format & 3];
        }

        int dotsAcross() {
            return orientation == 0 ? FORMAT_WIDE[format & 3] : FORMAT_HIGH[format & 3];
        }

        int dotsDown() {
            return orientation == 0 ? FORMAT_HIGH[format & 3] : FORMAT_WIDE[format & 3];
        }

        int across() {
            return UNITS * dotsAcross();
        }

        int down() {
            return UNITS * dotsDown();
        }

        void homeY() {
            moveY(top + vmi * 3 / 4);
        }

        void moveX(long place) {
            x = (int) Math.max(0, Math.min(place, UNITS * dotsAcross()));
        }

        void moveY(long place) {
            y = (int) Math.max(0, Math.min(place, UNITS * dotsDown()));
        }

        void keepPlace() {
            int i = 2 * kept;
            if (kept < PLACES_MOST && i >= 0 && i + 1 < places.length) {
                places[i] = x;
                places[i + 1] = y;
                kept++;
            }
        }

        void recallPlace() {
            int i = 2 * (kept - 1);
            if (i >= 0 && i + 1 < places.length) {
                kept--;
                moveX(places[i]);
                moveY(places[i + 1]);
            }
        }

        void tab() {
            int step = 8 * hmi;
            if (x < left) {
                moveX(left);
            } else if (step > 0) {
                int next = left + ((x - left) / step + 1) * step;
                moveX(Math.max(x, Math.min(next, right)));
            }
        }

        void leftMargin(int n) {
            if (n >= 0 && n * hmi < right) {
                left = n * hmi;
                moveX(Math.max(x, left));
            }
        }

        void rightMargin(int n) {
            int place = (n + 1) * hmi;
            if (n >= 0 && place > left && place <= across()) {
                right = place;
            }
        }

        void topMargin(int n) {
            if (n >= 0 && n * vmi < down()) {
                top = n * vmi;
                bottom = down();
                homeY();
            }
        }

        void bottomMargin(int n) {
            int place = top + n * vmi;
            if (n > 0 && place <= down()) {
                bottom = place;
            }
        }
    }

    /** A PATTERN: rows of dots that come over and over. */
    private static final class Tile {
        private static final int SIDE_MOST = 16;
        private static final int[] SHADES = {0, 8, 2, 10, 12, 4, 14, 6, 3, 11, 1, 9, 15, 7, 13, 5};
        private static final int SHADES_SIDE = 4;
        private static final int HATCH_SIDE = 8;

        private int wide = 1;
        private int high = 1;
        private boolean isWhite;
        /** Each row stands in its word over and over, so that 32 dots from any on are there. */
        private final long[] rows = new long[SIDE_MOST];

        void copy(Tile other) {
            wide = other.wide;
            high = other.high;
            isWhite = other.isWhite;
            System.arraycopy(other.rows, 0, rows, 0, rows.length);
        }

        void size(int newWide, int newHigh) {
            wide = Math.max(1, Math.min(newWide, SIDE_MOST));
            high = Math.max(1, Math.min(newHigh, SIDE_MOST));
            isWhite = false;
        }

        /** A row of the dots that are the lowest bits. */
        void setRow(int i, int bits) {
            int filled = Math.max(wide, 1);
            long row = (long) bits << (64 - filled);
            for (; filled < 64; filled *= 2) {
                row |= row >>> filled;
            }
            if (i >= 0 && i < rows.length) {
                rows[i] = row;
            }
        }

        void solid() {
            size(1, 1);
            setRow(0, 1);
        }

        void white() {
            size(1, 1);
            setRow(0, 0);
            isWhite = true;
        }

        void shade(int n) {
            size(SHADES_SIDE, SHADES_SIDE);
            for (int b = 0; b < SHADES_SIDE; b++) {
                int bits = 0;
                for (int a = 0; a < SHADES_SIDE; a++) {
                    int isBlack = 100 * SHADES[SHADES_SIDE * b + a] < 16 * n ? 1 : 0;
                    bits = bits << 1 | isBlack;
                }
                setRow(b, bits);
            }
        }

        void hatch(int n) {
            size(HATCH_SIDE, HATCH_SIDE);
            for (int b = 0; b < HATCH_SIDE; b++) {
                int bits = 0;
                for (int a = 0; a < HATCH_SIDE; a++) {
                    bits = bits << 1 | (isHatched(n, a, b) ? 1 : 0);
                }
                setRow(b, bits);
            }
        }

        private static boolean isHatched(int n, int a, int b) {
            boolean rising = ((a + b) & 7) == 0;
            boolean falling = ((a - b) & 7) == 0;
            switch (n) {
                case 1:
                    return b == 0;
                case 2:
                    return a == 0;
                case 3:
                    return rising;
                case 4:
                    return falling;
                case 5:
                    return a == 0 || b == 0;
                default:
                    return rising || falling;
            }
        }

        long rowAt(int b) {
            int i = Math.floorMod(b, Math.max(high, 1));
            return i < rows.length ? rows[i] : 0;
        }

        /** The 32 dots of a row from place a on. */
        int dotsFrom(long row, int a) {
            return (int) (row << Math.floorMod(a, Math.max(wide, 1)) >>> 32);
        }
    }

    /** What raster graphics have told, and their latest row. */
    private static final class Raster {
        private static final int ROW_BYTES = 80;
        private static final int ROW_DOTS = 640;
        private static final int LONG_SKIP = 31;

        private int scale;
        private int packing;
        /** 0: none was told, for the height too. */
        private int wide;
        private int high;
        private boolean isOn;
        private int start;
        private int rows;
        private final int[] row = new int[ROW_BYTES / 4];

        void copy(Raster other) {
            scale = other.scale;
            packing = other.packing;
            wide = other.wide;
            high = other.high;
            isOn = other.isOn;
            start = other.start;
            rows = other.rows;
            System.arraycopy(other.row, 0, row, 0, row.length);
        }

        void reset() {
            scale = 1;
            start = 0;
            rows = 0;
            clearRow();
            end(true);
        }

        void begin(int dot) {
            isOn = true;
            start = dot;
            rows = 0;
            clearRow();
        }

        void end(boolean wholly) {
            isOn = false;
            if (wholly) {
                packing = 0;
                wide = 0;
                high = 0;
            }
        }

        void clearRow() {
            Arrays.fill(row, 0);
        }

        boolean isFull() {
            return high > 0 && rows >= high;
        }

        int dotsInRow() {
            return wide > 0 ? Math.min(wide, ROW_DOTS) : ROW_DOTS;
        }

        /** Puts a byte so often from a place on; what comes beyond the row is lost. */
        private void put(int place, int code, int count) {
            for (int i = place; i < place + count && i < ROW_BYTES; i++) {
                int word = i >> 2;
                if (i >= 0 && word < row.length) {
                    int shift = 24 - 8 * (i & 3);
                    row[word] = row[word] & ~(255 << shift) | (code & 255) << shift;
                }
            }
        }

        void unpack(Reading data) {
            if (packing != 3) {
                clearRow();
            }
            switch (packing) {
                case 1:
                    unpackPairs(data);
                    break;
                case 2:
                    unpackMixed(data);
                    break;
                case 3:
                    unpackChanges(data);
                    break;
                default:
                    for (int i = 0; i < data.dataSize && i < ROW_BYTES; i++) {
                        put(i, data.dataByte(i), 1);
                    }
                    break;
            }
        }

        private void unpackPairs(Reading data) {
            int place = 0;
            for (int i = 0; i + 1 < data.dataSize; i += 2) {
                int count = data.dataByte(i) + 1;
                put(place, data.dataByte(i + 1), count);
                place += count;
            }
        }

        private void unpackMixed(Reading data) {
            int place = 0;
            for (int i = 0; i < data.dataSize; i++) {
                int code = data.dataByte(i);
                if (code < 128) {
                    for (int left = code; left >= 0 && i + 1 < data.dataSize; left--) {
                        i++;
                        put(place, data.dataByte(i), 1);
                        place++;
                    }
                } else if (code > 128 && i + 1 < data.dataSize) {
                    i++;
                    put(place, data.dataByte(i), 257 - code);
                    place += 257 - code;
                }
            }
        }

        private void unpackChanges(Reading data) {
            int place = 0;
            for (int i = 0; i < data.dataSize; i++) {
                int code = data.dataByte(i);
                int skip = code & 31;
                int more = skip == LONG_SKIP ? 255 : 0;
                while (more == 255 && i + 1 < data.dataSize) {
                    i++;
                    more = data.dataByte(i);
                    skip += more;
                }
                place += skip;
                for (int left = code >> 5; left >= 0 && i + 1 < data.dataSize; left--) {
                    i++;
                    put(place, data.dataByte(i), 1);
                    place++;
                }
            }
        }
    }

    /** All that a STREAM's sequences have told, but for fonts, patterns and macros. */
    private static final class Environment {
        private final Sheet sheet = new Sheet();
        private final Raster raster = new Raster();
        private final Tile pattern = new Tile();
        private final int[] primary = new int[Fonts.WISHES];
        private final int[] secondary = new int[Fonts.WISHES];
        private boolean isSecondary;
        private int copies;
        private boolean isSkipping;
        private int ends;
        private boolean isWrapping;
        private boolean sourceOpaque;
        private boolean patternOpaque;
        private int patternX;
        private int patternY;
        private int boxWide;
        private int boxHigh;
        private int fontId;
        private int code;
        private int patternNumber;
        private int macroId;
        private int overlay;

        void copy(Environment other) {
            sheet.copy(other.sheet);
            raster.copy(other.raster);
            pattern.copy(other.pattern);
            System.arraycopy(other.primary, 0, primary, 0, primary.length);
            System.arraycopy(other.secondary, 0, secondary, 0, secondary.length);
            isSecondary = other.isSecondary;
            copies = other.copies;
            isSkipping = other.isSkipping;
            ends = other.ends;
            isWrapping = other.isWrapping;
            sourceOpaque = other.sourceOpaque;
            patternOpaque = other.patternOpaque;
            patternX = other.patternX;
            patternY = other.patternY;
            boxWide = other.boxWide;
            boxHigh = other.boxHigh;
            fontId = other.fontId;
            code = other.code;
            patternNumber = other.patternNumber;
            macroId = other.macroId;
            overlay = other.overlay;
        }

        void reset(int format, int orientation) {
            sheet.reset();
            sheet.turn(format, orientation);
            raster.reset();
            pattern.solid();
            Fonts.firstWishes(primary);
            Fonts.firstWishes(secondary);
            isSecondary = false;
            copies = 1;
            isSkipping = false;
            ends = 0;
            isWrapping = false;
            sourceOpaque = false;
            patternOpaque = false;
            patternX = 0;
            patternY = 0;
            boxWide = 0;
            boxHigh = 0;
            fontId = 0;
            code = 0;
            patternNumber = 0;
            macroId = 0;
            overlay = NONE;
        }

        int[] wishes() {
            return isSecondary ? secondary : primary;
        }
    }

    /** Which of sixteen things are there, and which of them are TEMPORARY. */
    private static final class Shelf {
        private static final int SIZE = 16;
        private static final int TEMPORARY = 1;
        private static final int LASTING = 2;

        private final int[] sorts = new int[SIZE];

        boolean has(int i) {
            return i >= 0 && i < SIZE && sorts[i] != 0;
        }

        boolean isTemporary(int i) {
            return has(i) && sorts[i] == TEMPORARY;
        }

        void put(int i) {
            if (i >= 0 && i < SIZE) {
                sorts[i] = TEMPORARY;
            }
        }

        void remove(int i) {
            if (i >= 0 && i < SIZE) {
                sorts[i] = 0;
            }
        }

        void removeMany(boolean onlyTemporary) {
            for (int i = 0; i < SIZE; i++) {
                if (!onlyTemporary || sorts[i] == TEMPORARY) {
                    sorts[i] = 0;
                }
            }
        }

        void mark(int i, boolean temporary) {
            if (has(i)) {
                sorts[i] = temporary ? TEMPORARY : LASTING;
            }
        }

        int count() {
            int many = 0;
            for (int i = 0; i < SIZE; i++) {
                many += sorts[i] != 0 ? 1 : 0;
            }
            return many;
        }
    }

    /** The FONTS, the RESIDENT one too, with their GLYPHS. */
    private static final class Fonts {
        private static final int SENT = 16;
        private static final int RESIDENT = 16;
        private static final int CODES = 256;
        private static final int PITCH_MOST = 7200;
        private static final int GLYPHS_MOST = 400;
        private static final int GLYPH_SIDE = 32;
        private static final int RESIDENT_FIRST = 33;
        private static final int RESIDENT_LAST = 126;
        private static final int SLOTS = GLYPHS_MOST + RESIDENT_LAST - RESIDENT_FIRST + 1;

        /** A font's numbers in the order in which wishes are looked at; the ID stands behind. */
        private static final int SET = 0;
        private static final int SPACING = 1;
        private static final int PITCH = 2;
        private static final int HEIGHT = 3;
        private static final int STYLE = 4;
        private static final int WEIGHT = 5;
        private static final int TYPEFACE = 6;
        private static final int NUMBERS = 7;
        private static final int ID = 7;
        private static final int WISHES = 8;
        private static final int FIRST_PITCH = 720;
        private static final int FIRST_HEIGHT = 8;

        /** A GLYPH's numbers. */
        private static final int LEFT = 0;
        private static final int TOP = 1;
        private static final int WIDE = 2;
        private static final int HIGH = 3;
        private static final int ADVANCE = 4;
        private static final int HEAD = 5;

        private final Shelf shelf = new Shelf();
        private final int[] numbers = new int[(SENT + 1) * NUMBERS];
        /** Where a font's GLYPH of a code lies, and one more; 0: there is none. */
        private final int[] slots = new int[(SENT + 1) * CODES];
        private final boolean[] taken = new boolean[GLYPHS_MOST];
        private final int[] heads = new int[SLOTS * HEAD];
        private final int[] rows = new int[SLOTS * GLYPH_SIDE];
        private int glyphs;
        /** The FONT in use is asked for at each byte: the latest answer is kept. */
        private final int[] asked = new int[WISHES];
        private int answer;
        private boolean isAnswered;

        Fonts() {
            firstWishes(asked);
            System.arraycopy(asked, 0, numbers, RESIDENT * NUMBERS, NUMBERS);
            for (int code = RESIDENT_FIRST; code <= RESIDENT_LAST; code++) {
                int slot = GLYPHS_MOST + code - RESIDENT_FIRST;
                slots[RESIDENT * CODES + code] = slot + 1;
                setHead(slot, 0, 7, 6, 8, FIRST_PITCH);
                for (int r = 0; r < 8; r++) {
                    int bits = (code * code + 7 * code * r + 13 * r * r) / 4;
                    rows[slot * GLYPH_SIDE + r] = bits << 26;
                }
            }
        }

        static void firstWishes(int[] wishes) {
            Arrays.fill(wishes, 0);
            if (wishes.length >= WISHES) {
                wishes[PITCH] = FIRST_PITCH;
                wishes[HEIGHT] = FIRST_HEIGHT;
                wishes[ID] = NONE;
            }
        }

        private void setHead(int slot, int left, int top, int wide, int high, int advance) {
            int at = slot * HEAD;
            if (at >= 0 && at + HEAD <= heads.length) {
                heads[at + LEFT] = left;
                heads[at + TOP] = top;
                heads[at + WIDE] = wide;
                heads[at + HIGH] = high;
                heads[at + ADVANCE] = advance;
            }
        }

        boolean has(int font) {
            return font == RESIDENT || shelf.has(font);
        }

        int number(int font, int what) {
            int at = font * NUMBERS + what;
            return at >= 0 && at < numbers.length ? numbers[at] : 0;
        }

        private void setNumber(int font, int what, int value) {
            int at = font * NUMBERS + what;
            if (at >= 0 && at < numbers.length) {
                numbers[at] = value;
            }
        }

        /** This font is wished by its ID; false, if it is not there. */
        boolean wishFor(int font, int[] wishes) {
            if (!has(font) || wishes.length < WISHES) {
                return false;
            }
            System.arraycopy(numbers, font * NUMBERS, wishes, 0, NUMBERS);
            wishes[ID] = font;
            return true;
        }

        int glyphOf(int font, int code) {
            int at = font * CODES + code;
            return at >= 0 && at < slots.length ? slots[at] - 1 : NONE;
        }

        int head(int slot, int what) {
            int at = slot * HEAD + what;
            return at >= 0 && at < heads.length ? heads[at] : 0;
        }

        /** A GLYPH's row, its left dot in the highest bit. */
        int rowOf(int slot, int row) {
            int at = slot * GLYPH_SIDE + row;
            return at >= 0 && at < rows.length ? rows[at] : 0;
        }

        void send(int font, Reading data) {
            int pitch = data.dataTwo(1);
            boolean isFont = data.dataSize >= 9 && pitch >= 1 && pitch <= PITCH_MOST;
            if (!isFont || font < 0 || font >= SENT) {
                return;
            }
            remove(font);
            shelf.put(font);
            setNumber(font, SPACING, data.dataByte(0) == 0 ? 0 : 1);
            setNumber(font, PITCH, pitch);
            setNumber(font, HEIGHT, data.dataByte(3));
            setNumber(font, STYLE, data.dataByte(4));
            setNumber(font, WEIGHT, (byte) data.dataByte(5));
            setNumber(font, TYPEFACE, data.dataByte(6));
            setNumber(font, SET, data.dataTwo(7));
        }

        void sendGlyph(int font, int code, Reading data) {
            int wide = data.dataByte(2);
            int high = data.dataByte(3);
            int advance = data.dataTwo(4);
            int rowBytes = (wide + 7) / 8;
            if (wide < 1 || wide > GLYPH_SIDE || high < 1 || high > GLYPH_SIDE || advance > PITCH_MOST
                    || data.dataSize < 6 + high * rowBytes || !shelf.has(font)) {
                return;
            }
            int slot = slotFor(font, code);
            if (slot < 0) {
                return;
            }
            setHead(slot, (byte) data.dataByte(0), (byte) data.dataByte(1), wide, high, advance);
            for (int r = 0; r < high; r++) {
                int bits = 0;
                for (int i = 0; i < rowBytes; i++) {
                    bits |= data.dataByte(6 + r * rowBytes + i) << (24 - 8 * i);
                }
                int at = slot * GLYPH_SIDE + r;
                if (at < rows.length) {
                    rows[at] = bits & (-1 << (32 - wide));
                }
            }
        }

        /** The slot of the GLYPH that is there, or a free one; NONE if all are taken. */
        private int slotFor(int font, int code) {
            int at = font * CODES + code;
            if (at < 0 || at >= slots.length) {
                return NONE;
            }
            if (slots[at] > 0) {
                return slots[at] - 1;
            }
            for (int slot = 0; slot < GLYPHS_MOST; slot++) {
                if (!taken[slot]) {
                    taken[slot] = true;
                    glyphs++;
                    slots[at] = slot + 1;
                    return slot;
                }
            }
            return NONE;
        }

        void removeGlyph(int font, int code) {
            int at = font * CODES + code;
            if (font < 0 || font >= SENT || at < 0 || at >= slots.length) {
                return;
            }
            int slot = slots[at] - 1;
            if (slot >= 0 && slot < taken.length) {
                taken[slot] = false;
                glyphs--;
                slots[at] = 0;
            }
        }

        void remove(int font) {
            isAnswered = false;
            if (shelf.has(font)) {
                for (int code = 0; code < CODES; code++) {
                    removeGlyph(font, code);
                }
                shelf.remove(font);
            }
        }

        void removeMany(boolean onlyTemporary) {
            for (int font = 0; font < SENT; font++) {
                if (!onlyTemporary || shelf.isTemporary(font)) {
                    remove(font);
                }
            }
        }

        /** The FONT that is in use by these wishes. */
        int inUse(int[] wishes) {
            boolean isSame = isAnswered && wishes.length >= WISHES;
            for (int i = 0; isSame && i < WISHES; i++) {
                isSame = wishes[i] == asked[i];
            }
            if (!isSame && wishes.length >= WISHES) {
                System.arraycopy(wishes, 0, asked, 0, WISHES);
                answer = has(asked[ID]) ? asked[ID] : choose();
                isAnswered = true;
            }
            return answer;
        }

        /** Of the fonts that are there, as bits of a number, each wish leaves fewer. */
        private int choose() {
            int among = 1 << RESIDENT;
            for (int font = 0; font < SENT; font++) {
                among |= shelf.has(font) ? 1 << font : 0;
            }
            among = alike(among, SET, asked[SET]);
            among = alike(among, SPACING, asked[SPACING]);
            if (asked[SPACING] == 0) {
                among = alike(among, PITCH, nearest(among, PITCH));
            }
            among = alike(among, HEIGHT, nearest(among, HEIGHT));
            among = alike(among, STYLE, asked[STYLE]);
            among = alike(among, WEIGHT, nearest(among, WEIGHT));
            among = alike(among, TYPEFACE, asked[TYPEFACE]);
            return 31 - zerosAhead(among & -among);
        }

        /** Those with this number; all, if there is none. */
        private int alike(int among, int what, int value) {
            int found = 0;
            for (int font = 0; font <= RESIDENT; font++) {
                int at = font * NUMBERS + what;
                boolean isAmong = (among >> font & 1) != 0 && at >= 0 && at < numbers.length;
                if (isAmong && numbers[at] == value) {
                    found |= 1 << font;
                }
            }
            return found == 0 ? among : found;
        }

        /** The number nearest to what is wished, of two the greater. */
        private int nearest(int among, int what) {
            int wish = asked[what];
            int best = 0;
            boolean isFound = false;
            for (int font = 0; font <= RESIDENT; font++) {
                int at = font * NUMBERS + what;
                if ((among >> font & 1) != 0 && at >= 0 && at < numbers.length) {
                    int value = numbers[at];
                    int nearer = Math.abs(best - wish) - Math.abs(value - wish);
                    if (!isFound || nearer > 0 || (nearer == 0 && value > best)) {
                        best = value;
                        isFound = true;
                    }
                }
            }
            return best;
        }
    }

    /** The logical page while MARKS come on it. */
    private static final class Canvas {
        private static final int WORDS = 25;
        private static final int MARKS_MOST = 2000;
        private static final int COVERED_MOST = 5000000;

        private final int[] dots = new int[WORDS * ROWS_MOST];
        /** The SOURCE of a MARK's row, at its place on the page. */
        private final int[] line = new int[WORDS];
        private int marks;
        private int made;
        private int covered;
        private boolean isMuch;
        private int fromX;
        private int toX;
        private int fromY;
        private int toY;
        private Tile tile = new Tile();
        private int originX;
        private int originY;
        private int sourceWhitens;
        private int patternWhitens;

        void startJob() {
            made = 0;
            covered = 0;
            isMuch = false;
            clear();
        }

        void clear() {
            marks = 0;
            Arrays.fill(dots, 0);
        }

        void ink(Tile pattern, Environment env) {
            tile = pattern;
            originX = env.patternX;
            originY = env.patternY;
            sourceWhitens = env.sourceOpaque ? -1 : 0;
            patternWhitens = env.patternOpaque || pattern.isWhite ? -1 : 0;
        }

        /** Counts a MARK of this box; true, if dots of it are on the page. */
        boolean mark(Sheet sheet, int x, int y, int wide, int high) {
            fromX = Math.max(x, 0);
            toX = Math.min(x + wide, sheet.dotsAcross());
            fromY = Math.max(y, 0);
            toY = Math.min(y + high, sheet.dotsDown());
            int covers = Math.max(toX - fromX, 0) * Math.max(toY - fromY, 0);
            if (covered + covers > COVERED_MOST) {
                isMuch = true;
                return false;
            }
            covered += covers;
            made++;
            marks++;
            if (marks > MARKS_MOST) {
                isMuch = true;
                return false;
            }
            return covers > 0;
        }

        void layBlack() {
            Arrays.fill(line, -1);
        }

        /** 32 dots from x on; a MARK that is not wider looks at no others. */
        void layWord(int x, int bits) {
            int word = Math.floorDiv(x, 32);
            int shift = Math.floorMod(x, 32);
            if (word >= 0 && word < line.length) {
                line[word] = bits >>> shift;
            }
            if (word + 1 >= 0 && word + 1 < line.length) {
                line[word + 1] = shift == 0 ? 0 : bits << (32 - shift);
            }
        }

        void layRow(Raster raster) {
            Arrays.fill(line, 0);
            int wide = raster.dotsInRow();
            int at = firstOther(raster.row, 0, 0, wide, 0);
            for (int turn = 0; turn < wide && at < wide; turn++) {
                int end = firstOther(raster.row, 0, at, wide, 1);
                int left = raster.start + at * raster.scale;
                int right = raster.start + end * raster.scale;
                blacken(line, 0, left, Math.min(right, WORDS * 32));
                at = firstOther(raster.row, 0, end, wide, 0);
            }
        }

        /** What lies in the line comes on one row of the page. */
        void paintRow(int y) {
            long pattern = tile.rowAt(y - originY);
            int first = fromX >> 5;
            int last = (toX - 1) >> 5;
            int row = y * WORDS;
            if (first < 0 || last >= line.length || row < 0 || row + last >= dots.length) {
                return;
            }
            for (int word = first; word <= last; word++) {
                int mask = maskOf(word, fromX, toX);
                int paint = tile.dotsFrom(pattern, 32 * word - originX);
                int source = line[word];
                int turnsBlack = source & paint;
                int turnsWhite = source & ~paint & patternWhitens | ~source & sourceWhitens;
                int at = row + word;
                dots[at] = dots[at] & ~(turnsWhite & mask) | turnsBlack & mask;
            }
        }

        /** The page as it comes, in rows of STRIDE words. */
        void copyTo(int[] page, Sheet sheet) {
            Arrays.fill(page, 0);
            int words = Math.min((sheet.dotsAcross() + 31) / 32, WORDS);
            for (int y = 0; y < sheet.dotsDown() && y < ROWS_MOST; y++) {
                for (int word = 0; word < words; word++) {
                    int bits = dots[y * WORDS + word];
                    if (sheet.orientation != 0) {
                        turnWord(page, y, sheet.pageHigh() - 1 - 32 * word, bits);
                    } else if (word < STRIDE && y * STRIDE + word < page.length) {
                        page[y * STRIDE + word] = bits;
                    }
                }
            }
        }

        /** Dots of a logical row are of one column, from a page's row upward. */
        private static void turnWord(int[] page, int column, int bottomRow, int bits) {
            int left = bits;
            for (int i = 0; i < 32 && left != 0; i++) {
                int at = (bottomRow - i) * STRIDE + (column >> 5);
                if (left < 0 && at >= 0 && at < page.length) {
                    page[at] |= 1 << (31 - (column & 31));
                }
                left <<= 1;
            }
        }
    }

    /** The pages that came, and the OUT. */
    private static final class Sheaf {
        private static final int SIZE_MOST = 60000;
        private static final int LINK = 4;
        private static final int ENTRIES = 13;
        private static final int ENTRY = 12;

        private final byte[] bytes = new byte[SIZE_MOST];
        private int size;
        private int pages;
        private boolean isMuch;
        private final int[] wides = new int[PAGES_MOST];
        private final int[] highs = new int[PAGES_MOST];
        /** One more than can come: a page too many is read, too, before it is told. */
        private final int[][] dots = new int[PAGES_MOST + 1][STRIDE * ROWS_MOST];
        /** Where the place of the next page's DIRECTORY is to stand. */
        private int link;
        private int waiting;
        private int waitingBits;

        void clear() {
            size = 0;
            pages = 0;
            isMuch = false;
        }

        boolean hasPage(int p) {
            return p >= 0 && p < pages && p < PAGES_MOST;
        }

        boolean hasRow(int p, int y) {
            return hasPage(p) && y >= 0 && y < highs[p];
        }

        int byteAt(int i) {
            return i >= 0 && i < size && i < bytes.length ? bytes[i] & 255 : NONE;
        }

        int sumOfBytes() {
            int sum = 0;
            for (int i = 0; i < size && i < bytes.length; i++) {
                sum = 31 * sum + (bytes[i] & 255);
            }
            return sum;
        }

        int blackDots(int p, int y) {
            int count = 0;
            int row = y * STRIDE;
            for (int word = 0; word < STRIDE && p >= 0 && p < dots.length; word++) {
                int at = row + word;
                count += at >= 0 && at < dots[p].length ? Integer.bitCount(dots[p][at]) : 0;
            }
            return count;
        }

        /** The dots of the page that comes next. */
        int[] nextPage() {
            return dots[Math.max(0, Math.min(pages, PAGES_MOST))];
        }

        /** The next page, whose dots are there, comes. */
        void come(int wide, int high) {
            if (pages < 0 || pages >= PAGES_MOST) {
                isMuch = true;
                return;
            }
            if (pages == 0) {
                putNumber('I' | 'I' << 8 | 42 << 16, 4);
                link = size;
                putNumber(0, 4);
            }
            int strip = size;
            waiting = 0;
            waitingBits = 0;
            int[] page = nextPage();
            for (int row = 0; row < high && !isMuch; row++) {
                writeRow(page, row, wide);
            }
            putBits(1, 12);
            putBits(1, 12);
            putBits(0, (8 - waitingBits) & 7);
            int length = size - strip;
            if ((length & 1) != 0) {
                putByte(0);
            }
            writeDirectory(wide, high, strip, length);
            wides[pages] = wide;
            highs[pages] = high;
            pages++;
        }

        private void writeDirectory(int wide, int high, int strip, int length) {
            setNumber(link, size);
            int behind = size + 2 + ENTRIES * ENTRY + LINK;
            putNumber(ENTRIES, 2);
            putEntry(TAG_WIDE, LONG, wide);
            putEntry(TAG_HIGH, LONG, high);
            putEntry(TAG_DOT_BITS, SHORT, 1);
            putEntry(TAG_CODE, SHORT, 4);
            putEntry(TAG_COLOURS, SHORT, 0);
            putEntry(TAG_STRIP_PLACES, LONG, strip);
            putEntry(TAG_DOT_PARTS, SHORT, 1);
            putEntry(TAG_STRIP_ROWS, LONG, high);
            putEntry(TAG_STRIP_LENGTHS, LONG, length);
            putEntry(TAG_ACROSS_INCH, RATIO, behind);
            putEntry(TAG_DOWN_INCH, RATIO, behind);
            putEntry(TAG_CODE_WAYS, LONG, 0);
            putEntry(TAG_INCH, SHORT, 2);
            link = size;
            putNumber(0, 4);
            putNumber(75, 4);
            putNumber(1, 4);
        }

        private void putEntry(int tag, int sort, int value) {
            putNumber(tag | sort << 16, 4);
            putNumber(1, 4);
            putNumber(value, 4);
        }

        private void putNumber(int number, int count) {
            for (int i = 0; i < count; i++) {
                putByte(number >>> (8 * i));
            }
        }

        private void setNumber(int place, int number) {
            for (int i = 0; i < 4; i++) {
                if (place + i >= 0 && place + i < size && place + i < bytes.length) {
                    bytes[place + i] = (byte) (number >>> (8 * i));
                }
            }
        }

        private void putByte(int code) {
            if (size >= 0 && size < bytes.length) {
                bytes[size] = (byte) code;
                size++;
            } else {
                isMuch = true;
            }
        }

        private void putBits(int code, int count) {
            waiting = waiting << count | code;
            waitingBits += count;
            while (waitingBits >= 8) {
                waitingBits -= 8;
                putByte(waiting >>> waitingBits);
            }
        }

        private void putRun(int length, int colour) {
            int table = colour == 0 ? 0 : RUNS;
            if (length >= SMALL_RUNS) {
                int at = table + SMALL_RUNS - 1 + length / SMALL_RUNS;
                if (at < RUN_CODES.length && at < RUN_BITS.length) {
                    putBits(RUN_CODES[at], RUN_BITS[at]);
                }
            }
            int at = table + length % SMALL_RUNS;
            if (at >= 0 && at < RUN_CODES.length && at < RUN_BITS.length) {
                putBits(RUN_CODES[at], RUN_BITS[at]);
            }
        }

        private void writeRow(int[] page, int row, int wide) {
            int here = row * STRIDE;
            int above = row == 0 ? NONE : here - STRIDE;
            int a0 = NONE;
            int colour = 0;
            for (int turn = 0; turn <= wide && a0 < wide; turn++) {
                int from = Math.max(a0, 0);
                int a1 = firstOther(page, here, from, wide, colour);
                int b1 = firstChange(page, above, a0, wide, colour);
                int b2 = firstOther(page, above, b1, wide, 1 - colour);
                int near = a1 - b1 + NEAR_MOST;
                if (b2 < a1) {
                    putBits(1, PASS_BITS);
                    a0 = b2;
                } else if (near >= 0 && near < NEAR_CODES.length && near < NEAR_BITS.length) {
                    putBits(NEAR_CODES[near], NEAR_BITS[near]);
                    a0 = a1;
                    colour = 1 - colour;
                } else {
                    int a2 = firstOther(page, here, a1, wide, 1 - colour);
                    putBits(1, TWO_RUNS_BITS);
                    putRun(a1 - from, colour);
                    putRun(a2 - a1, 1 - colour);
                    a0 = a2;
                }
            }
        }
    }

    /** Picture files of DIRECTORIES, whose STRIPS are in the fax code. */
    private static final class Pictures {
        private static final int HEADER_FAULT = 2;
        private static final int DIRECTORY_FAULT = 3;
        private static final int ENTRY_FAULT = 4;
        private static final int CODE_FAULT = 5;
        private static final int HEADER = 8;
        private static final int ENTRIES_MOST = 40;
        private static final int ENTRY = 12;
        private static final int STRIPS_MOST = 40;
        private static final int WIDE_MOST = 640;
        private static final int PASS = 8;
        private static final int TWO_RUNS = 9;
        private static final int WRONG = 10;

        private final Sheaf sheaf;
        private byte[] bytes = new byte[0];
        private int start;
        private int size;
        private int fault;
        private int faultPlace;
        private boolean lowestFirst;
        private final long[] seen = new long[PAGES_MOST];
        private int directories;
        /** What the ENTRIES tell; NONE: they did not. */
        private long wide;
        private long high;
        private long code;
        private long colours;
        private long bitOrder;
        private long stripRows;
        private long placesEntry;
        private long lengthsEntry;
        /** The STRIP at hand, and its bits: the next one, and where they end. */
        private final byte[] strip = new byte[JOB_MOST];
        private int bit;
        private int bitEnd;
        /** Which RUN the next 13 bits begin with, and one more: white ones, then black ones. */
        private final short[] runs = new short[2 << RUN_BITS_MOST];

        Pictures(Sheaf sheaf) {
            this.sheaf = sheaf;
            for (int i = 0; i < RUN_CODES.length && i < RUN_BITS.length; i++) {
                int colour = i / RUNS;
                int open = RUN_BITS_MOST - RUN_BITS[i];
                int first = (colour << RUN_BITS_MOST) + (RUN_CODES[i] << open);
                for (int k = first; k < first + (1 << open) && k < runs.length; k++) {
                    runs[k] = (short) (i + 1);
                }
            }
        }

        void read(byte[] from, int first, int end) {
            bytes = from;
            start = first;
            size = end - first;
            fault = 0;
            faultPlace = NONE;
            directories = 0;
            readHeader();
            long next = fault == 0 ? number(4, 4) : 0;
            for (int turn = 0; turn <= PAGES_MOST && next != 0 && fault == 0; turn++) {
                next = readDirectory(next);
            }
        }

        private void fail(int sort, long place) {
            if (fault == 0) {
                fault = sort;
                faultPlace = (int) Math.min(place, size);
            }
        }

        private int byteAt(long i) {
            long at = start + i;
            return i >= 0 && i < size && at < bytes.length ? bytes[(int) at] & 255 : 0;
        }

        private long number(long at, int count) {
            long value = 0;
            for (int i = 0; i < count; i++) {
                value = value << 8 | byteAt(lowestFirst ? at + count - 1 - i : at + i);
            }
            return value;
        }

        private void readHeader() {
            int order = byteAt(0);
            lowestFirst = order == 'I';
            for (int i = 0; i < HEADER && fault == 0; i++) {
                boolean isRight = true;
                if (i == 0) {
                    isRight = order == 'I' || order == 'M';
                } else if (i == 1) {
                    isRight = byteAt(i) == order;
                } else if (i < 4) {
                    isRight = byteAt(i) == (lowestFirst == (i == 2) ? 42 : 0);
                }
                if (i >= size || !isRight) {
                    fail(HEADER_FAULT, i);
                }
            }
        }

        /** The page of a DIRECTORY comes; where the next one is. */
        private long readDirectory(long place) {
            int entries = (int) number(place, 2);
            long next = place + 2 + (long) ENTRY * entries;
            if (!isDirectory(place, entries)) {
                fail(DIRECTORY_FAULT, place);
                return 0;
            }
            seen[directories] = place;
            directories++;
            startEntries();
            for (int i = 0; i < entries && fault == 0; i++) {
                readEntry(place + 2 + ENTRY * i);
            }
            checkEntries(place);
            if (fault == 0) {
                readStrips();
            }
            if (fault == 0) {
                sheaf.come((int) wide, (int) high);
            }
            if (fault == 0 && sheaf.isMuch) {
                fault = MUCH;
            }
            return number(next, 4);
        }

        private boolean isDirectory(long place, int entries) {
            if (entries < 1 || entries > ENTRIES_MOST || directories < 0 || directories >= seen.length
                    || place + 2 + (long) ENTRY * entries + 4 > size) {
                return false;
            }
            for (int i = 0; i < directories; i++) {
                if (seen[i] == place) {
                    return false;
                }
            }
            for (int i = 1; i < entries; i++) {
                long entry = place + 2 + ENTRY * i;
                if (number(entry, 2) <= number(entry - ENTRY, 2)) {
                    return false;
                }
            }
            return true;
        }

        private void startEntries() {
            wide = NONE;
            high = NONE;
            code = NONE;
            colours = NONE;
            bitOrder = 1;
            stripRows = NONE;
            placesEntry = NONE;
            lengthsEntry = NONE;
        }

        private void readEntry(long entry) {
            int tag = (int) number(entry, 2);
            if (tag == TAG_STRIP_PLACES) {
                placesEntry = entry;
            } else if (tag == TAG_STRIP_LENGTHS) {
                lengthsEntry = entry;
            } else if (isOfOne(tag)) {
                int sort = (int) number(entry + 2, 2);
                long many = number(entry + 4, 4);
                long value = number(entry + 8, sort == SHORT ? 2 : 4);
                boolean isNumber = (sort == SHORT || sort == LONG) && many == 1;
                if (!isNumber || !tell(tag, value)) {
                    fail(ENTRY_FAULT, entry);
                }
            }
        }

        private static boolean isOfOne(int tag) {
            return tag == TAG_WIDE || tag == TAG_HIGH || tag == TAG_DOT_BITS || tag == TAG_CODE
                    || tag == TAG_COLOURS || tag == TAG_BIT_ORDER || tag == TAG_DOT_PARTS
                    || tag == TAG_STRIP_ROWS || tag == TAG_CODE_WAYS;
        }

        /** Keeps what an ENTRY tells; false, if it may not be. */
        private boolean tell(int tag, long value) {
            switch (tag) {
                case TAG_WIDE:
                    wide = value;
                    return value >= 1 && value <= WIDE_MOST;
                case TAG_HIGH:
                    high = value;
                    return value >= 1 && value <= ROWS_MOST;
                case TAG_CODE:
                    code = value;
                    return value == 4;
                case TAG_COLOURS:
                    colours = value;
                    return value == 0 || value == 1;
                case TAG_BIT_ORDER:
                    bitOrder = value;
                    return value == 1 || value == 2;
                case TAG_STRIP_ROWS:
                    stripRows = value;
                    return value >= 1;
                case TAG_CODE_WAYS:
                    return value == 0;
                default:
                    return value == 1;
            }
        }

        private void checkEntries(long place) {
            if (wide == NONE || high == NONE || code == NONE || colours == NONE
                    || placesEntry == NONE || lengthsEntry == NONE) {
                fail(ENTRY_FAULT, place);
            }
            if (fault != 0) {
                return;
            }
            stripRows = stripRows == NONE ? high : Math.min(stripRows, high);
            if (!isList(placesEntry)) {
                fail(ENTRY_FAULT, placesEntry);
            }
            if (!isList(lengthsEntry)) {
                fail(ENTRY_FAULT, lengthsEntry);
            }
        }

        private long strips() {
            return (high + stripRows - 1) / Math.max(stripRows, 1);
        }

        private boolean isList(long entry) {
            long sort = number(entry + 2, 2);
            long many = number(entry + 4, 4);
            if ((sort != SHORT && sort != LONG) || many != strips() || many > STRIPS_MOST) {
                return false;
            }
            long length = many * (sort == SHORT ? 2 : 4);
            return length <= 4 || number(entry + 8, 4) + length <= size;
        }

        private long listed(long entry, int i) {
            int each = number(entry + 2, 2) == SHORT ? 2 : 4;
            long place = entry + 8;
            if (number(entry + 4, 4) * each > 4) {
                place = number(place, 4);
            }
            return number(place + (long) i * each, each);
        }

        private void readStrips() {
            int[] page = sheaf.nextPage();
            Arrays.fill(page, 0);
            int row = 0;
            for (int i = 0; i < STRIPS_MOST && i < strips() && fault == 0; i++) {
                long place = listed(placesEntry, i);
                long length = listed(lengthsEntry, i);
                int end = (int) Math.min(row + stripRows, high);
                boolean isRight = place + length <= size;
                if (isRight) {
                    openStrip((int) place, (int) length);
                }
                for (int y = row; isRight && y < end && y < ROWS_MOST; y++) {
                    isRight = readRow(page, y * STRIDE, y == row ? NONE : (y - 1) * STRIDE);
                }
                if (!isRight) {
                    fail(CODE_FAULT, place);
                }
                row = end;
            }
            if (colours == 1) {
                invert(page);
            }
        }

        private void invert(int[] page) {
            for (int row = 0; row < high && row < ROWS_MOST; row++) {
                for (int word = 0; word < STRIDE; word++) {
                    int at = row * STRIDE + word;
                    if (at < page.length) {
                        page[at] ^= maskOf(word, 0, (int) wide);
                    }
                }
            }
        }

        /** Takes the bytes of a STRIP that lies wholly in the file, the right way round. */
        private void openStrip(int place, int length) {
            for (int i = 0; i < length && i < strip.length; i++) {
                int value = byteAt(place + i);
                if (bitOrder == 2) {
                    value = (value & 0xf0) >> 4 | (value & 0x0f) << 4;
                    value = (value & 0xcc) >> 2 | (value & 0x33) << 2;
                    value = (value & 0xaa) >> 1 | (value & 0x55) << 1;
                }
                strip[i] = (byte) value;
            }
            bit = 0;
            bitEnd = 8 * Math.min(length, strip.length);
        }

        /** The bits that come next, 13 at most; 0s stand behind the STRIP. */
        private int peek(int count) {
            int first = bit >> 3;
            int bits = 0;
            for (int i = first; i < first + 3; i++) {
                boolean isIn = i >= 0 && i < strip.length && 8 * i < bitEnd;
                bits = bits << 8 | (isIn ? strip[i] & 255 : 0);
            }
            return bits >> (24 - (bit & 7) - count) & ((1 << count) - 1);
        }

        private boolean skipBits(int count) {
            bit += count;
            return bit <= bitEnd;
        }

        private int readMode() {
            int bits = peek(7);
            if (bits >> 3 == 1) {
                return skipBits(PASS_BITS) ? PASS : WRONG;
            }
            if (bits >> 4 == 1) {
                return skipBits(TWO_RUNS_BITS) ? TWO_RUNS : WRONG;
            }
            for (int i = 0; i < NEAR_CODES.length && i < NEAR_BITS.length; i++) {
                if (bits >> (7 - NEAR_BITS[i]) == NEAR_CODES[i]) {
                    return skipBits(NEAR_BITS[i]) ? i - NEAR_MOST : WRONG;
                }
            }
            return WRONG;
        }

        /** How long the RUN is that comes next; NONE: wrong. */
        private int readRun(int colour) {
            int length = 0;
            for (int turn = 0; turn < 2; turn++) {
                int at = (colour << RUN_BITS_MOST) + peek(RUN_BITS_MOST);
                int found = at >= 0 && at < runs.length ? runs[at] - 1 : NONE;
                if (found < 0 || found >= RUN_BITS.length || !skipBits(RUN_BITS[found])) {
                    return NONE;
                }
                int run = found - colour * RUNS;
                if (run < SMALL_RUNS) {
                    return length + run;
                }
                length = (run - SMALL_RUNS + 1) * SMALL_RUNS;
            }
            return NONE;
        }

        private boolean readRow(int[] page, int here, int above) {
            int width = (int) wide;
            int a0 = NONE;
            int colour = 0;
            for (int turn = 0; turn < TURNS_MOST && a0 < width; turn++) {
                int from = Math.max(a0, 0);
                int b1 = firstChange(page, above, a0, width, colour);
                int mode = readMode();
                int middle;
                if (mode == PASS) {
                    middle = firstOther(page, above, b1, width, 1 - colour);
                    a0 = middle;
                } else if (mode == TWO_RUNS) {
                    int one = readRun(colour);
                    int two = readRun(1 - colour);
                    middle = from + one;
                    a0 = middle + two;
                    if (one < 0 || two < 0 || a0 > width) {
                        return false;
                    }
                } else {
                    middle = b1 + mode;
                    if (mode == WRONG || middle <= a0 || middle > width) {
                        return false;
                    }
                    a0 = middle;
                }
                if (colour == 1) {
                    blacken(page, here, from, middle);
                } else {
                    blacken(page, here, middle, a0);
                }
                if (mode <= NEAR_MOST) {
                    colour = 1 - colour;
                }
            }
            return true;
        }
    }

    /** Goes through STREAMS and macros, and does what they tell. */
    private static final class Streams {
        private static final int BYTES_MOST = 60000;
        private static final int WITHIN_MOST = 3;
        private static final int MACRO_MOST = 1500;
        private static final int STATES = 12;
        private static final int ESCAPE = 27;
        private static final int FIRST_FORMAT = 1;
        private static final int COPIES_MOST = 4;
        private static final int SPACING_MOST = 32000;

        private final Sheaf sheaf;
        private final Canvas canvas = new Canvas();
        private final Fonts fonts = new Fonts();
        private final Shelf tileShelf = new Shelf();
        private final Tile[] tiles = new Tile[Shelf.SIZE];
        private final Tile boxTile = new Tile();
        private final Shelf macroShelf = new Shelf();
        private final byte[] macroBytes = new byte[Shelf.SIZE * MACRO_MOST];
        private final int[] macroSizes = new int[Shelf.SIZE];
        private final Environment env = new Environment();
        private final Environment beforeOverlay = new Environment();
        private final Environment[] beforeMacro = new Environment[WITHIN_MOST];
        private final Reading[] readings = new Reading[WITHIN_MOST + 1];
        private Reading reading;
        /** How many macros lie within one another here. */
        private int depth;
        private boolean isInOverlay;
        private int gone;
        private final int[] lastStates = new int[STATES];
        private boolean isLastKnown;

        Streams(Sheaf sheaf) {
            this.sheaf = sheaf;
            for (int i = 0; i < tiles.length; i++) {
                tiles[i] = new Tile();
            }
            for (int i = 0; i < beforeMacro.length; i++) {
                beforeMacro[i] = new Environment();
            }
            for (int i = 0; i < readings.length; i++) {
                readings[i] = new Reading();
            }
            reading = new Reading();
        }

        boolean isMuch() {
            return gone > BYTES_MOST || canvas.isMuch || sheaf.isMuch;
        }

        void startJob() {
            gone = 0;
            canvas.startJob();
        }

        void run(byte[] job, int from, int to) {
            env.reset(FIRST_FORMAT, 0);
            canvas.clear();
            depth = 0;
            isInOverlay = false;
            goThrough(job, from, to);
            if (!isMuch()) {
                keepStates();
                reset();
            }
            // The E at its end is the STREAM's own: MUCH that comes by it came in the STREAM.
            isLastKnown = !isMuch();
        }

        private void keepStates() {
            Sheet sheet = env.sheet;
            lastStates[0] = sheet.x;
            lastStates[1] = sheet.y;
            lastStates[2] = sheet.hmi;
            lastStates[3] = sheet.vmi;
            lastStates[4] = sheet.left;
            lastStates[5] = sheet.right;
            lastStates[6] = sheet.top;
            lastStates[7] = sheet.bottom;
            lastStates[8] = fonts.inUse(env.wishes());
            lastStates[9] = sheet.format;
            lastStates[10] = sheet.orientation;
            lastStates[11] = sheet.kept;
        }

        int lastState(int what) {
            return isLastKnown && what >= 0 && what < STATES ? lastStates[what] : NONE;
        }

        int number(int what) {
            switch (what) {
                case 0:
                    return fonts.shelf.count();
                case 1:
                    return fonts.glyphs;
                case 2:
                    return tileShelf.count();
                case 3:
                    return macroShelf.count();
                case 4:
                    return bytesOfMacros();
                case 5:
                    return gone;
                case 6:
                    return canvas.made;
                default:
                    return NONE;
            }
        }

        private int bytesOfMacros() {
            int sum = 0;
            for (int i = 0; i < macroSizes.length; i++) {
                sum += macroShelf.has(i) ? macroSizes[i] : 0;
            }
            return sum;
        }

        int dropAll() {
            int had = fonts.shelf.count() + tileShelf.count() + macroShelf.count();
            fonts.removeMany(false);
            tileShelf.removeMany(false);
            macroShelf.removeMany(false);
            return had;
        }

        void dropTemporary() {
            fonts.removeMany(true);
            tileShelf.removeMany(true);
            macroShelf.removeMany(true);
        }

        /** Counts bytes that are gone through at once; false, if the job has MUCH by then. */
        private boolean pass(int count) {
            if (isMuch()) {
                return false;
            }
            gone += count;
            reading.at += count;
            return !isMuch();
        }

        private boolean passEach(int count) {
            boolean isPassed = true;
            for (int i = 0; i < count && isPassed; i++) {
                isPassed = pass(1);
            }
            return isPassed;
        }

        private void goThrough(byte[] bytes, int from, int to) {
            if (depth < 0 || depth >= readings.length || readings[depth] == null) {
                return;
            }
            Reading own = readings[depth];
            own.open(bytes, from, to);
            reading = own;
            for (int turn = 0; turn < TURNS_MOST && own.hasMore() && !isMuch(); turn++) {
                int code = own.next();
                if (own.kind == 0) {
                    if (pass(1)) {
                        other(code);
                    }
                } else if (readField()) {
                    obey();
                    if (own.closing) {
                        own.kind = 0;
                    }
                }
            }
        }

        /** Goes through a macro one deeper. */
        private void goMacro(int id) {
            if (!macroShelf.has(id) || depth >= WITHIN_MOST) {
                return;
            }
            Reading caller = reading;
            depth++;
            goThrough(macroBytes, id * MACRO_MOST, id * MACRO_MOST + macroSizes[id]);
            depth--;
            reading = caller;
        }

        private void callMacro(int id) {
            if (depth < 0 || depth >= beforeMacro.length || beforeMacro[depth] == null) {
                return;
            }
            Environment before = beforeMacro[depth];
            before.copy(env);
            goMacro(id);
            boolean isTurned = env.sheet.format != before.sheet.format
                    || env.sheet.orientation != before.sheet.orientation;
            if (isTurned) {
                eject();
            }
            env.copy(before);
        }

        private void other(int code) {
            switch (code) {
                case 8:
                    env.sheet.moveX(env.sheet.x - env.sheet.back);
                    break;
                case 9:
                    env.sheet.tab();
                    break;
                case 10:
                    line(env.sheet.vmi);
                    endWithReturn();
                    break;
                case 12:
                    form();
                    endWithReturn();
                    break;
                case 13:
                    carriageReturn();
                    if ((env.ends & 1) != 0) {
                        line(env.sheet.vmi);
                    }
                    break;
                case 14:
                case 15:
                    env.isSecondary = code == 14;
                    followPitch();
                    break;
                case ESCAPE:
                    beginSequence();
                    break;
                default:
                    if (code >= 32) {
                        show(code);
                    }
                    break;
            }
        }

        private void endWithReturn() {
            if ((env.ends & 2) != 0) {
                carriageReturn();
            }
        }

        private void carriageReturn() {
            env.sheet.moveX(env.sheet.left);
        }

        private void line(int growth) {
            Sheet sheet = env.sheet;
            if (sheet.y + growth > (env.isSkipping ? sheet.bottom : sheet.down())) {
                form();
            } else {
                sheet.moveY(sheet.y + growth);
            }
        }

        private void form() {
            eject();
            env.sheet.homeY();
        }

        private void followPitch() {
            env.sheet.hmi = fonts.number(fonts.inUse(env.wishes()), Fonts.PITCH);
        }

        private void beginSequence() {
            int second = reading.next();
            if (second >= 48 && second <= 126) {
                if (pass(1)) {
                    twoBytes(second);
                }
            } else if (second >= 33 && second <= 47 && pass(1)) {
                reading.kind = second;
                reading.group = 0;
                int third = reading.next();
                if (third >= 96 && third <= 126 && pass(1)) {
                    reading.group = third;
                }
            }
        }

        private void twoBytes(int second) {
            switch (second) {
                case 'E':
                    if (depth == 0) {
                        reset();
                    }
                    break;
                case '9':
                    env.sheet.clearMargins();
                    break;
                case '=':
                    line(env.sheet.vmi / 2);
                    break;
                case 'Y':
                    showAll();
                    break;
                default:
                    break;
            }
        }

        private void reset() {
            eject();
            env.reset(FIRST_FORMAT, 0);
            dropTemporary();
        }

        private void showAll() {
            Reading own = reading;
            boolean isOver = false;
            for (int turn = 0; turn < TURNS_MOST && !isOver && own.hasMore() && !isMuch(); turn++) {
                int code = own.next();
                isOver = code == ESCAPE && own.byteAt(own.at + 1) == 'Z';
                if (isOver) {
                    passEach(2);
                } else if (pass(1)) {
                    if (code == 13) {
                        carriageReturn();
                        line(env.sheet.vmi);
                    }
                    show(code);
                }
            }
        }

        private void showData() {
            Reading own = reading;
            for (int i = 0; i < own.dataSize && !isMuch(); i++) {
                show(own.dataByte(i));
            }
        }

        /** Reads a VALUE, its LETTER and DATA; false, if the SEQUENCE is over ahead of these. */
        private boolean readField() {
            if (!passEach(reading.readValue())) {
                return false;
            }
            int letter = reading.next();
            boolean isSmall = letter >= 96 && letter <= 126;
            if (!isSmall && (letter < 64 || letter > 94)) {
                reading.kind = 0;
                return false;
            }
            if (!pass(1)) {
                return false;
            }
            reading.letter = isSmall ? letter - 32 : letter;
            boolean hasData = reading.letter == 'W'
                    || (reading.letter == 'X' && reading.kind == '&' && reading.group == 'p');
            reading.closing = !isSmall || hasData;
            reading.dataFrom = reading.at;
            int size = Math.min(reading.n(), reading.end - reading.at);
            reading.dataSize = hasData ? Math.max(size, 0) : 0;
            return pass(reading.dataSize);
        }

        private void obey() {
            switch (reading.kind << 8 | reading.group) {
                case '&' << 8 | 'l':
                    pageField(reading.n());
                    break;
                case '&' << 8 | 'a':
                    placeField(reading.n());
                    break;
                case '&' << 8 | 'k':
                    spaceField(reading.n());
                    break;
                case '&' << 8 | 's':
                    wrapField(reading.n());
                    break;
                case '&' << 8 | 'f':
                    macroField(reading.n());
                    break;
                case '&' << 8 | 'p':
                    if (reading.letter == 'X') {
                        showData();
                    }
                    break;
                case '*' << 8 | 'p':
                    dotPlaceField();
                    break;
                case '*' << 8 | 'c':
                    controlField(reading.n());
                    break;
                case '*' << 8 | 'v':
                    inkField(reading.n());
                    break;
                case '*' << 8 | 't':
                    scaleField(reading.n());
                    break;
                case '*' << 8 | 'r':
                    rasterField(reading.n());
                    break;
                case '*' << 8 | 'b':
                    rowField(reading.n());
                    break;
                default:
                    obeyFont();
                    break;
            }
        }

        private void obeyFont() {
            boolean isPrimary = reading.kind == '(';
            if (!isPrimary && reading.kind != ')') {
                return;
            }
            int[] wishes = isPrimary ? env.primary : env.secondary;
            boolean isWished = false;
            if (reading.group == 0) {
                isWished = fontField(wishes, reading.n());
            } else if (reading.group == 's' && reading.letter != 'W') {
                isWished = styleField(wishes, reading.n());
            } else if (reading.group == 's' && isPrimary) {
                fonts.sendGlyph(env.fontId, env.code, reading);
            } else if (reading.group == 's') {
                fonts.send(env.fontId, reading);
            }
            if (isWished) {
                followPitch();
            }
        }

        private void pageField(int n) {
            Sheet sheet = env.sheet;
            switch (reading.letter) {
                case 'A':
                    if (n >= 0 && n < FORMAT_WIDE.length && !isInOverlay) {
                        eject();
                        sheet.turn(n, sheet.orientation);
                    }
                    break;
                case 'O':
                    if ((n == 0 || n == 1) && !isInOverlay) {
                        eject();
                        sheet.turn(sheet.format, n);
                    }
                    break;
                case 'H':
                    if (n == 0) {
                        form();
                    }
                    break;
                case 'X':
                    env.copies = n >= 1 && n <= COPIES_MOST ? n : env.copies;
                    break;
                case 'C':
                    sheet.vmi = spacing(150, sheet.vmi);
                    break;
                case 'D':
                    sheet.vmi = n > 0 && 48 % n == 0 ? 7200 / n : sheet.vmi;
                    break;
                case 'E':
                    sheet.topMargin(n);
                    break;
                case 'F':
                    sheet.bottomMargin(n);
                    break;
                case 'L':
                    env.isSkipping = n == 1 || (n != 0 && env.isSkipping);
                    break;
                default:
                    break;
            }
        }

        /** The VALUE as VMI or HMI; what it was, if it can't be that. */
        private int spacing(int each, int before) {
            long units = reading.units(each);
            return units >= 0 && units <= SPACING_MOST ? (int) units : before;
        }

        private void placeField(int n) {
            Sheet sheet = env.sheet;
            switch (reading.letter) {
                case 'C':
                    moveAcross(reading.units(sheet.hmi));
                    break;
                case 'R':
                    moveDown(reading.units(sheet.vmi), sheet.top);
                    break;
                case 'H':
                    moveAcross(reading.units(10));
                    break;
                case 'V':
                    moveDown(reading.units(10), sheet.top);
                    break;
                case 'L':
                    sheet.leftMargin(n);
                    break;
                case 'M':
                    sheet.rightMargin(n);
                    break;
                default:
                    break;
            }
        }

        private void moveAcross(long units) {
            env.sheet.moveX(reading.signed ? env.sheet.x + units : units);
        }

        private void moveDown(long units, int from) {
            env.sheet.moveY(reading.signed ? env.sheet.y + units : from + units);
        }

        private void dotPlaceField() {
            if (reading.letter == 'X') {
                moveAcross(reading.units(UNITS));
            } else if (reading.letter == 'Y') {
                moveDown(reading.units(UNITS), 0);
            } else if (reading.letter == 'R') {
                env.patternX = env.sheet.x / UNITS;
                env.patternY = env.sheet.y / UNITS;
            }
        }

        private void spaceField(int n) {
            if (reading.letter == 'H') {
                env.sheet.hmi = spacing(60, env.sheet.hmi);
            } else if (reading.letter == 'G' && n >= 0 && n <= 3) {
                env.ends = n;
            }
        }

        private void wrapField(int n) {
            if (reading.letter == 'C' && (n == 0 || n == 1)) {
                env.isWrapping = n == 0;
            }
        }

        private void macroField(int n) {
            if (reading.letter == 'Y' && n >= 0 && n < Shelf.SIZE) {
                env.macroId = n;
            } else if (reading.letter == 'S' && n == 0) {
                env.sheet.keepPlace();
            } else if (reading.letter == 'S' && n == 1) {
                env.sheet.recallPlace();
            } else if (reading.letter == 'X') {
                macroTask(n);
            }
        }

        private void macroTask(int n) {
            switch (n) {
                case 0:
                    if (depth == 0) {
                        tellMacro(env.macroId);
                    }
                    break;
                case 2:
                    goMacro(env.macroId);
                    break;
                case 3:
                    callMacro(env.macroId);
                    break;
                case 4:
                    env.overlay = env.macroId;
                    break;
                case 5:
                    env.overlay = NONE;
                    break;
                case 6:
                case 7:
                    macroShelf.removeMany(n == 7);
                    break;
                case 8:
                    macroShelf.remove(env.macroId);
                    break;
                case 9:
                case 10:
                    macroShelf.mark(env.macroId, n == 9);
                    break;
                default:
                    break;
            }
        }

        private void tellMacro(int id) {
            int from = reading.at;
            int stop = from;
            while (stop < reading.end && !isMacroEnd(stop)) {
                stop++;
            }
            int size = stop - from;
            reading.closing = true;
            if (!pass(stop < reading.end ? size + 5 : size) || size > MACRO_MOST) {
                return;
            }
            int start = id * MACRO_MOST;
            if (id >= 0 && id < macroSizes.length && start + size <= macroBytes.length) {
                System.arraycopy(reading.bytes, from, macroBytes, start, size);
                macroSizes[id] = size;
                macroShelf.put(id);
            }
        }

        private boolean isMacroEnd(int i) {
            return reading.byteAt(i) == ESCAPE && reading.byteAt(i + 1) == '&'
                    && reading.byteAt(i + 2) == 'f' && reading.byteAt(i + 3) == '1'
                    && reading.byteAt(i + 4) == 'X';
        }

        private void eject() {
            if (isInOverlay || canvas.marks == 0) {
                return;
            }
            if (macroShelf.has(env.overlay) && depth < WITHIN_MOST) {
                beforeOverlay.copy(env);
                env.reset(env.sheet.format, env.sheet.orientation);
                isInOverlay = true;
                goMacro(beforeOverlay.overlay);
                isInOverlay = false;
                env.copy(beforeOverlay);
            }
            for (int copy = 0; copy < env.copies && !isMuch(); copy++) {
                Sheet sheet = env.sheet;
                canvas.copyTo(sheaf.nextPage(), sheet);
                sheaf.come(sheet.pageWide(), sheet.pageHigh());
            }
            canvas.clear();
        }

        private int advance(int font, int glyph) {
            boolean isOwn = glyph >= 0 && fonts.number(font, Fonts.SPACING) != 0;
            return isOwn ? fonts.head(glyph, Fonts.ADVANCE) : env.sheet.hmi;
        }

        private void show(int code) {
            Sheet sheet = env.sheet;
            int font = fonts.inUse(env.wishes());
            int glyph = fonts.glyphOf(font, code);
            int advance = advance(font, glyph);
            if (sheet.x + advance > (sheet.x > sheet.right ? sheet.across() : sheet.right)) {
                if (!env.isWrapping) {
                    return;
                }
                carriageReturn();
                line(sheet.vmi);
                font = fonts.inUse(env.wishes());
                glyph = fonts.glyphOf(font, code);
                advance = advance(font, glyph);
            }
            if (glyph >= 0) {
                markGlyph(glyph);
            }
            sheet.moveX(sheet.x + advance);
            sheet.back = advance;
        }

        private void markGlyph(int glyph) {
            int x = env.sheet.x / UNITS + fonts.head(glyph, Fonts.LEFT);
            int y = env.sheet.y / UNITS - fonts.head(glyph, Fonts.TOP);
            int wide = fonts.head(glyph, Fonts.WIDE);
            int high = fonts.head(glyph, Fonts.HIGH);
            canvas.ink(env.pattern, env);
            if (!isMuch() && canvas.mark(env.sheet, x, y, wide, high)) {
                for (int row = canvas.fromY; row < canvas.toY; row++) {
                    canvas.layWord(x, fonts.rowOf(glyph, row - y));
                    canvas.paintRow(row);
                }
            }
        }

        /** Makes a MARK of what lies in the canvas's line, in each of its rows. */
        private void markBox(int x, int y, int wide, int high, Tile tile) {
            canvas.ink(tile, env);
            if (!isMuch() && canvas.mark(env.sheet, x, y, wide, high)) {
                for (int row = canvas.fromY; row < canvas.toY; row++) {
                    canvas.paintRow(row);
                }
            }
        }

        /** Whether it is a wish: HMI follows then. */
        private boolean fontField(int[] wishes, int n) {
            int letter = reading.letter;
            if (letter == 'X') {
                return fonts.wishFor(n, wishes);
            }
            boolean isSet = letter >= 'A' && letter <= 'Z' && letter != 'W';
            return isSet && wish(wishes, Fonts.SET, 32 * n + letter - 64);
        }

        private boolean styleField(int[] wishes, int n) {
            boolean isByte = n >= 0 && n <= 255;
            switch (reading.letter) {
                case 'P':
                    return wish(wishes, Fonts.SPACING, n == 0 ? 0 : 1);
                case 'H':
                    return wishPitch(wishes);
                case 'V':
                    return isByte && wish(wishes, Fonts.HEIGHT, n);
                case 'S':
                    return isByte && wish(wishes, Fonts.STYLE, n);
                case 'B':
                    return n >= -128 && n <= 127 && wish(wishes, Fonts.WEIGHT, n);
                case 'T':
                    return isByte && wish(wishes, Fonts.TYPEFACE, n);
                default:
                    return false;
            }
        }

        private boolean wishPitch(int[] wishes) {
            long exact = reading.exact();
            if (exact <= 0) {
                return false;
            }
            long pitch = (long) Fonts.PITCH_MOST * Reading.PARTS / exact;
            boolean isPitch = pitch >= 1 && pitch <= Fonts.PITCH_MOST;
            return isPitch && wish(wishes, Fonts.PITCH, (int) pitch);
        }

        private static boolean wish(int[] wishes, int what, int value) {
            if (what < 0 || what >= Fonts.NUMBERS || wishes.length < Fonts.WISHES) {
                return false;
            }
            wishes[what] = value;
            wishes[Fonts.ID] = NONE;
            return true;
        }

        private void controlField(int n) {
            switch (reading.letter) {
                case 'D':
                    env.fontId = n >= 0 && n < Fonts.SENT ? n : env.fontId;
                    break;
                case 'E':
                    env.code = n >= 0 && n < Fonts.CODES ? n : env.code;
                    break;
                case 'F':
                    fontTask(n);
                    break;
                case 'G':
                    env.patternNumber = n;
                    break;
                case 'W':
                    tellTile(env.patternNumber);
                    break;
                case 'Q':
                    tileTask(n);
                    break;
                case 'A':
                    env.boxWide = n >= 0 ? n : env.boxWide;
                    break;
                case 'B':
                    env.boxHigh = n >= 0 ? n : env.boxHigh;
                    break;
                case 'H':
                    env.boxWide = boxSide(env.boxWide);
                    break;
                case 'V':
                    env.boxHigh = boxSide(env.boxHigh);
                    break;
                case 'P':
                    box(n);
                    break;
                default:
                    break;
            }
        }

        private int boxSide(int before) {
            long units = reading.units(10);
            return units >= 0 ? (int) ((units + UNITS - 1) / UNITS) : before;
        }

        private void box(int n) {
            boolean isThere = n == 5 || setTile(boxTile, n);
            if (isThere && env.boxWide > 0 && env.boxHigh > 0) {
                canvas.layBlack();
                int x = env.sheet.x / UNITS;
                int y = env.sheet.y / UNITS;
                markBox(x, y, env.boxWide, env.boxHigh, n == 5 ? env.pattern : boxTile);
            }
        }

        private void fontTask(int n) {
            switch (n) {
                case 0:
                case 1:
                    fonts.removeMany(n == 1);
                    break;
                case 2:
                    fonts.remove(env.fontId);
                    break;
                case 3:
                    fonts.removeGlyph(env.fontId, env.code);
                    break;
                case 4:
                case 5:
                    fonts.shelf.mark(env.fontId, n == 4);
                    break;
                default:
                    break;
            }
        }

        private void tileTask(int n) {
            switch (n) {
                case 0:
                case 1:
                    tileShelf.removeMany(n == 1);
                    break;
                case 2:
                    tileShelf.remove(env.patternNumber);
                    break;
                case 4:
                case 5:
                    tileShelf.mark(env.patternNumber, n == 4);
                    break;
                default:
                    break;
            }
        }

        private void tellTile(int id) {
            int wide = reading.dataByte(0);
            int high = reading.dataByte(1);
            int rowBytes = (wide + 7) / 8;
            boolean isPattern = wide >= 1 && wide <= Tile.SIDE_MOST && high >= 1 && high <= Tile.SIDE_MOST
                    && reading.dataSize >= 2 + high * rowBytes;
            if (!isPattern || id < 0 || id >= tiles.length || tiles[id] == null) {
                return;
            }
            Tile tile = tiles[id];
            tile.size(wide, high);
            for (int row = 0; row < high; row++) {
                int bits = 0;
                for (int i = 0; i < rowBytes; i++) {
                    bits = bits << 8 | reading.dataByte(2 + row * rowBytes + i);
                }
                tile.setRow(row, bits >> (8 * rowBytes - wide));
            }
            tileShelf.put(id);
        }

        /** Makes a tile the PATTERN of this sort; false, if there is none such. */
        private boolean setTile(Tile tile, int sort) {
            int number = env.patternNumber;
            switch (sort) {
                case 0:
                    tile.solid();
                    return true;
                case 1:
                    tile.white();
                    return true;
                case 2:
                    if (number >= 1 && number <= 100) {
                        tile.shade(number);
                        return true;
                    }
                    return false;
                case 3:
                    if (number >= 1 && number <= 6) {
                        tile.hatch(number);
                        return true;
                    }
                    return false;
                case 4:
                    if (tileShelf.has(number) && number < tiles.length && tiles[number] != null) {
                        tile.copy(tiles[number]);
                        return true;
                    }
                    return false;
                default:
                    return false;
            }
        }

        private void inkField(int n) {
            boolean isChoice = n == 0 || n == 1;
            if (reading.letter == 'N' && isChoice) {
                env.sourceOpaque = n == 1;
            } else if (reading.letter == 'O' && isChoice) {
                env.patternOpaque = n == 1;
            } else if (reading.letter == 'T') {
                setTile(env.pattern, n);
            }
        }

        private void scaleField(int n) {
            Raster raster = env.raster;
            if (reading.letter != 'R' || raster.isOn) {
                return;
            }
            if (n == 75) {
                raster.scale = 1;
            } else if (n == 37) {
                raster.scale = 2;
            } else if (n == 25) {
                raster.scale = 3;
            } else if (n == 18) {
                raster.scale = 4;
            }
        }

        private void rasterField(int n) {
            Raster raster = env.raster;
            switch (reading.letter) {
                case 'A':
                    if (n == 0 || n == 1) {
                        beginRaster(n);
                    }
                    break;
                case 'B':
                case 'C':
                    raster.end(reading.letter == 'C');
                    break;
                case 'S':
                    raster.wide = raster.isOn ? raster.wide : Math.max(n, 0);
                    break;
                case 'T':
                    raster.high = raster.isOn ? raster.high : Math.max(n, 0);
                    break;
                default:
                    break;
            }
        }

        private void beginRaster(int n) {
            if (n == 0) {
                env.sheet.moveX(0);
            }
            env.raster.begin(env.sheet.x / UNITS);
        }

        private void rowField(int n) {
            Raster raster = env.raster;
            if (reading.letter == 'M' && n >= 0 && n <= 3) {
                raster.packing = n;
            } else if (reading.letter == 'Y' && n > 0 && raster.isOn) {
                int count = raster.high > 0 ? Math.min(n, raster.high - raster.rows) : n;
                raster.clearRow();
                growRows(Math.max(count, 0));
            } else if (reading.letter == 'W') {
                rasterRow();
            }
        }

        private void growRows(int count) {
            Raster raster = env.raster;
            raster.rows = raster.high > 0 ? raster.rows + count : 0;
            env.sheet.moveY(env.sheet.y + (long) count * raster.scale * UNITS);
        }

        private void rasterRow() {
            Raster raster = env.raster;
            if (!raster.isOn) {
                beginRaster(0);
            }
            if (raster.isFull()) {
                return;
            }
            raster.unpack(reading);
            canvas.layRow(raster);
            int y = env.sheet.y / UNITS;
            int wide = raster.scale * raster.dotsInRow();
            markBox(raster.start, y, wide, raster.scale, env.pattern);
            growRows(1);
        }
    }
}
