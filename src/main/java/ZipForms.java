/**
 * Packed files by the form of zip: entries are built, written as bytes, and read back whole or not at all.
 *
 * Refusals are the constants below; a fault of the machine's kind is answered as -30 less it, and a fault
 * of reading as -10 less its kind. All rows are made in the constructor and used again, so no call makes
 * an object.
 */
public final class ZipForms {
    public static final int NONE = -1, UNKNOWN = -2, OUTSIDE = -3, STATE = -4, FULL = -5;

    private static final int NULL_FAULT = 1, CAST_FAULT = 2, INDEX_FAULT = 3;
    private static final int MACHINE_FAULT_BASE = -30, READ_FAULT_BASE = -10;

    private static final int FILE = 0, PACKED = 1, FOLDER = 2;
    private static final int STREAMED = 1, WIDE = 2;
    private static final int SLASH = '/', BACKSLASH = '\\', DOT = '.';

    private static final int ENTRY_LIMIT = 12, BYTE_LIMIT = 2000, COMMENT_LIMIT = 12;
    private static final int NAME_LIMIT = 16, DATA_LIMIT = 40, TRUE_LIMIT = 1000000;
    private static final int PART_LIMIT = 3, PART_BYTES = 8, CALL_BYTES = 8;
    private static final int HIGHEST_ID = 65535;

    private static final long LOCAL_SIGN = 0x04034B50L, BEHIND_SIGN = 0x08074B50L;
    private static final long CENTRE_SIGN = 0x02014B50L, END_SIGN = 0x06054B50L;
    private static final int LOCAL_FIXED = 30, CENTRE_FIXED = 46, END_FIXED = 22, BEHIND_BYTES = 16;
    private static final int PART_HEAD = 4, WIDE_ID = 1, WIDE_BYTES = 16;
    private static final int PLAIN_VERSION = 20, WIDE_VERSION = 45;
    private static final int STREAMED_FLAGS = 8, PACKED_METHOD = 8;
    private static final long ALL_BITS = 0xFFFFFFFFL;
    private static final int SUM_MASK = 0xEDB88320;

    private final Entry[] entries = new Entry[ENTRY_LIMIT];
    private final Store store = new Store();
    private final Reading reading = new Reading(store);
    private final byte[] remark = new byte[COMMENT_LIMIT];
    private int entryCount = 0;
    private int remarkCount = 0;
    private int latestFault = 0;
    private int faultPlace = NONE;

    public ZipForms() {
        for (int i = 0; i < ENTRY_LIMIT; i++) {
            entries[i] = new Entry();
        }
    }

    // ---- entries

    public int entry(int kind, int form, long a, int n) {
        if (kind < FILE || kind > FOLDER || form < 0 || form > WIDE || kind == FOLDER && form != 0) {
            return OUTSIDE;
        }
        if (!fitsName(kind, a, n)) {
            return OUTSIDE;
        }
        if (entryCount >= ENTRY_LIMIT) {
            return FULL;
        }
        Entry made = entries[entryCount];
        made.begin(kind, form);
        made.lengthenName(a, n);
        entryCount++;
        return entryCount - 1;
    }

    public int name(int e, long a, int n) {
        if (isUnknown(e)) {
            return UNKNOWN;
        }
        Entry it = entries[e];
        if (!fitsName(it.kind, a, n)) {
            return OUTSIDE;
        }
        if (it.letterCount + n > NAME_LIMIT) {
            return FULL;
        }
        it.lengthenName(a, n);
        return it.letterCount;
    }

    public int data(int e, long a, int n) {
        if (isUnknown(e)) {
            return UNKNOWN;
        }
        if (n < 0 || n > CALL_BYTES) {
            return OUTSIDE;
        }
        Entry it = entries[e];
        if (it.kind == FOLDER) {
            return faultOf(CAST_FAULT);
        }
        if (it.octetCount + n > DATA_LIMIT) {
            return FULL;
        }
        spread(a, n, it.octets, it.octetCount);
        it.octetCount += n;
        it.hasData = true;
        it.sumWasRead = false;
        return it.octetCount;
    }

    public int packed(int e, int size, int sum) {
        if (isUnknown(e)) {
            return UNKNOWN;
        }
        if (size < 0 || size > TRUE_LIMIT) {
            return OUTSIDE;
        }
        Entry it = entries[e];
        if (it.kind != PACKED) {
            return faultOf(CAST_FAULT);
        }
        it.toldTrue = size;
        it.toldSum = sum;
        return 1;
    }

    public int part(int e, int id, long a, int n) {
        if (isUnknown(e)) {
            return UNKNOWN;
        }
        if (id <= WIDE_ID || id > HIGHEST_ID || n < 0 || n > PART_BYTES) {
            return OUTSIDE;
        }
        Entry it = entries[e];
        if (it.partCount >= PART_LIMIT) {
            return FULL;
        }
        it.partIds[it.partCount] = id;
        it.partSizes[it.partCount] = n;
        spread(a, n, it.partOctets, it.partCount * PART_BYTES);
        it.partCount++;
        return it.partCount;
    }

    public int stamp(int e, int year, int month, int day, int second) {
        if (isUnknown(e)) {
            return UNKNOWN;
        }
        if (year < 1980 || year > 2107 || month < 1 || month > 12 || day < 1 || day > 31) {
            return OUTSIDE;
        }
        if (second < 0 || second > 86399) {
            return OUTSIDE;
        }
        Entry it = entries[e];
        it.dayBits = (year - 1980) * 512 + month * 32 + day;
        it.timeBits = second / 3600 * 2048 + second / 60 % 60 * 32 + second % 60 / 2;
        return 1;
    }

    public int attributes(int e, int v) {
        if (isUnknown(e)) {
            return UNKNOWN;
        }
        entries[e].attributeBits = v;
        return 1;
    }

    public int clear() {
        int gone = entryCount;
        entryCount = 0;
        return gone;
    }

    // ---- the bytes

    public int comment(long a, int n) {
        if (n < 0 || n > CALL_BYTES) {
            return OUTSIDE;
        }
        spread(a, n, remark, 0);
        remarkCount = n;
        return 1;
    }

    public int write() {
        if (lacksData()) {
            return faultOf(NULL_FAULT);
        }
        if (lengthFrom(0) > BYTE_LIMIT) {
            return FULL;
        }
        store.count = 0;
        return putFrom(0);
    }

    public int add(int e) {
        if (e < 0 || e > entryCount) {
            return UNKNOWN;
        }
        if (!allPlacedBefore(e)) {
            return STATE;
        }
        if (lacksData()) {
            return faultOf(NULL_FAULT);
        }
        if (store.count + lengthFrom(e) > BYTE_LIMIT) {
            return FULL;
        }
        return putFrom(e);
    }

    public int read() {
        if (!reading.isWhole()) {
            faultPlace = reading.faultPlace;
            return READ_FAULT_BASE - reading.faultKind;
        }
        faultPlace = NONE;
        entryCount = reading.rowCount;
        for (int i = 0; i < entryCount && i < ENTRY_LIMIT; i++) {
            entries[i].takeFrom(reading.rows[i], store);
        }
        remarkCount = reading.remarkCount;
        store.copyTo(reading.endPlace + END_FIXED, remarkCount, remark, 0);
        return entryCount;
    }

    public int place() {
        return faultPlace;
    }

    public int feed(long a, int n) {
        if (n < 1 || n > CALL_BYTES) {
            return OUTSIDE;
        }
        if (store.count + n > BYTE_LIMIT) {
            return FULL;
        }
        spread(a, n, store.cells, store.count);
        store.count += n;
        return store.count;
    }

    public int cut(int n) {
        if (n < 0 || n > store.count) {
            return OUTSIDE;
        }
        int gone = store.count - n;
        store.count = n;
        return gone;
    }

    public int poke(int i, int mask) {
        if (!store.holds(i, 1)) {
            return UNKNOWN;
        }
        if (mask < 0 || mask > 255) {
            return OUTSIDE;
        }
        store.cells[i] = (byte) (store.cells[i] ^ mask);
        return store.number1(i);
    }

    // ---- plain readers

    public int at(int i) {
        return store.holds(i, 1) ? store.number1(i) : faultOf(INDEX_FAULT);
    }

    public int half(int i) {
        return store.holds(i, 2) ? store.number2(i) : faultOf(INDEX_FAULT);
    }

    public long word(int i) {
        return store.holds(i, 4) ? store.number4(i) : faultOf(INDEX_FAULT);
    }

    // ---- what there is

    public int about(int e, int what) {
        if (isUnknown(e)) {
            return UNKNOWN;
        }
        Entry it = entries[e];
        switch (what) {
            case 0: return it.kind;
            case 1: return it.letterCount;
            case 2: return it.flags();
            case 3: return it.method();
            case 4: return it.timeBits;
            case 5: return it.dayBits;
            case 6: return it.attributeBits;
            case 7: return it.partCount;
            case 8: return it.form == WIDE ? 1 : 0;
            case 9: return it.localPlace;
            case 10: return it.hasData ? 0 : 1;
            default: return OUTSIDE;
        }
    }

    public int letter(int e, int i) {
        if (isUnknown(e)) {
            return UNKNOWN;
        }
        Entry it = entries[e];
        if (i < 0 || i >= it.letterCount) {
            return faultOf(INDEX_FAULT);
        }
        return it.letters[i] & 255;
    }

    public int octet(int e, int i) {
        if (isUnknown(e)) {
            return UNKNOWN;
        }
        Entry it = entries[e];
        if (it.kind == FOLDER) {
            return faultOf(CAST_FAULT);
        }
        if (it.lacksData()) {
            return faultOf(NULL_FAULT);
        }
        if (i < 0 || i >= it.octetCount) {
            return faultOf(INDEX_FAULT);
        }
        return it.octets[i] & 255;
    }

    public long size(int e, int what) {
        if (isUnknown(e)) {
            return UNKNOWN;
        }
        if (what < 0 || what > 2) {
            return OUTSIDE;
        }
        Entry it = entries[e];
        if (it.kind == FOLDER) {
            return faultOf(CAST_FAULT);
        }
        boolean isTold = it.kind == PACKED && what != 0;
        if (!isTold && it.lacksData()) {
            return faultOf(NULL_FAULT);
        }
        if (what == 0) {
            return it.octetCount;
        }
        return what == 1 ? it.trueSize() : it.sum() & ALL_BITS;
    }

    public int extra(int e, int k, int what, int i) {
        if (isUnknown(e)) {
            return UNKNOWN;
        }
        Entry it = entries[e];
        if (k < 0 || k >= it.partCount) {
            return UNKNOWN;
        }
        if (what < 0 || what > 2) {
            return OUTSIDE;
        }
        if (what == 0) {
            return it.partIds[k];
        }
        if (what == 1) {
            return it.partSizes[k];
        }
        if (i < 0 || i >= it.partSizes[k]) {
            return faultOf(INDEX_FAULT);
        }
        return it.partOctets[k * PART_BYTES + i] & 255;
    }

    public int right(int e) {
        if (isUnknown(e)) {
            return UNKNOWN;
        }
        Entry it = entries[e];
        if (it.kind == PACKED) {
            return STATE;
        }
        if (it.kind == FOLDER) {
            return faultOf(CAST_FAULT);
        }
        if (it.lacksData()) {
            return faultOf(NULL_FAULT);
        }
        return it.sum() == sumOf(it.octets, it.octetCount) ? 1 : 0;
    }

    public int same(int e) {
        if (isUnknown(e)) {
            return UNKNOWN;
        }
        int first = 0;
        while (first < e && !entries[first].hasNameOf(entries[e])) {
            first++;
        }
        return first;
    }

    public int told(int what) {
        switch (what) {
            case 0: return entryCount;
            case 1: return store.count;
            case 2: return remarkCount;
            case 3: return latestFault;
            default: return OUTSIDE;
        }
    }

    // ---- helpers of the calls

    private boolean isUnknown(int e) {
        return e < 0 || e >= entryCount || e >= ENTRY_LIMIT;
    }

    private int faultOf(int machineKind) {
        latestFault = machineKind;
        return MACHINE_FAULT_BASE - machineKind;
    }

    private boolean lacksData() {
        for (int i = 0; i < entryCount; i++) {
            if (entries[i].lacksData()) {
                return true;
            }
        }
        return false;
    }

    private boolean allPlacedBefore(int e) {
        for (int i = 0; i < e; i++) {
            if (entries[i].localPlace == NONE) {
                return false;
            }
        }
        return true;
    }

    /** Counted ahead of putting, so that a call that is FULL has changed nothing. */
    private int lengthFrom(int e) {
        int length = END_FIXED + remarkCount;
        for (int i = 0; i < entryCount; i++) {
            length += entries[i].centreLength();
            if (i >= e) {
                length += entries[i].localLength();
            }
        }
        return length;
    }

    private int putFrom(int e) {
        for (int i = e; i < entryCount; i++) {
            entries[i].putLocal(store);
        }
        int centrePlace = store.count;
        for (int i = 0; i < entryCount; i++) {
            entries[i].putCentre(store);
        }
        putEnd(centrePlace);
        return store.count;
    }

    private void putEnd(int centrePlace) {
        int centreBytes = store.count - centrePlace;
        store.putNumber(END_SIGN, 4);
        store.putNumber(0, 4);
        store.putNumber(entryCount, 2);
        store.putNumber(entryCount, 2);
        store.putNumber(centreBytes, 4);
        store.putNumber(centrePlace, 4);
        store.putNumber(remarkCount, 2);
        store.putCells(remark, 0, remarkCount);
    }

    private static boolean fitsName(int kind, long a, int n) {
        if (n < 1 || n > CALL_BYTES) {
            return false;
        }
        for (int j = 0; j < n; j++) {
            if (octetOf(a, n, j) == 0) {
                return false;
            }
        }
        return kind == FOLDER || octetOf(a, n, n - 1) != SLASH;
    }

    /** Byte j of the lowest n bytes of a, the highest of them being byte 0. */
    private static int octetOf(long a, int n, int j) {
        return (int) (a >>> 8 * (n - 1 - j)) & 255;
    }

    private static void spread(long a, int n, byte[] cells, int from) {
        for (int j = 0; j < n && from + j < cells.length; j++) {
            cells[from + j] = (byte) octetOf(a, n, j);
        }
    }

    private static int sumOf(byte[] cells, int n) {
        int s = -1;
        for (int i = 0; i < n && i < cells.length; i++) {
            s ^= cells[i] & 255;
            for (int k = 0; k < 8; k++) {
                s = (s & 1) == 0 ? s >>> 1 : s >>> 1 ^ SUM_MASK;
            }
        }
        return ~s;
    }

    /** THE BYTES. A number is 0 where it goes beyond the cells, since a row's lengths are read ahead of its bounds. */
    private static final class Store {
        final byte[] cells = new byte[BYTE_LIMIT];
        int count = 0;

        boolean holds(int i, int n) {
            return i >= 0 && i <= count - n;
        }

        int number1(int i) {
            return i < 0 || i >= BYTE_LIMIT ? 0 : cells[i] & 255;
        }

        int number2(int i) {
            return number1(i) | number1(i + 1) << 8;
        }

        long number4(int i) {
            return longNumber(i, 4);
        }

        long number8(int i) {
            return longNumber(i, 8);
        }

        private long longNumber(int i, int n) {
            long v = 0;
            for (int k = 0; k < n; k++) {
                v |= (long) number1(i + k) << 8 * k;
            }
            return v;
        }

        boolean isSame(int i, int j, int n) {
            for (int k = 0; k < n; k++) {
                if (number1(i + k) != number1(j + k)) {
                    return false;
                }
            }
            return true;
        }

        void copyTo(int from, int n, byte[] target, int to) {
            for (int k = 0; k < n && to + k < target.length; k++) {
                target[to + k] = (byte) number1(from + k);
            }
        }

        void putNumber(long v, int n) {
            for (int k = 0; k < n; k++) {
                putCell((byte) (v >>> 8 * k));
            }
        }

        void putCells(byte[] source, int from, int n) {
            for (int k = 0; k < n && from + k < source.length; k++) {
                putCell(source[from + k]);
            }
        }

        private void putCell(byte v) {
            if (count < BYTE_LIMIT) {
                cells[count] = v;
                count++;
            }
        }
    }

    /** An ENTRY of any kind; what a kind does not have stays 0. */
    private static final class Entry {
        final byte[] letters = new byte[NAME_LIMIT];
        final byte[] octets = new byte[DATA_LIMIT];
        final int[] partIds = new int[PART_LIMIT];
        final int[] partSizes = new int[PART_LIMIT];
        final byte[] partOctets = new byte[PART_LIMIT * PART_BYTES];
        int kind = FILE;
        int form = 0;
        int letterCount = 0;
        int octetCount = 0;
        int partCount = 0;
        boolean hasData = false;
        boolean sumWasRead = false;
        int toldTrue = 0;
        int toldSum = 0;
        int timeBits = 0;
        int dayBits = 0;
        int attributeBits = 0;
        int localPlace = NONE;

        void begin(int newKind, int newForm) {
            kind = newKind;
            form = newForm;
            letterCount = 0;
            octetCount = 0;
            partCount = 0;
            hasData = false;
            sumWasRead = false;
            toldTrue = 0;
            toldSum = 0;
            timeBits = 0;
            dayBits = 0;
            attributeBits = 0;
            localPlace = NONE;
            if (newKind == FOLDER) {
                letters[0] = (byte) SLASH;
                letterCount = 1;
            }
        }

        /** The caller has seen that n letters more have room. */
        void lengthenName(long a, int n) {
            int behind = kind == FOLDER ? 1 : 0;
            spread(a, n, letters, letterCount - behind);
            letterCount += n;
            if (behind == 1 && letterCount <= NAME_LIMIT) {
                letters[letterCount - 1] = (byte) SLASH;
            }
        }

        /** A FOLDER never has DATA, so none is missing there: only a FILE without it is a FAULT. */
        boolean lacksData() {
            return kind != FOLDER && !hasData;
        }

        boolean hasNameOf(Entry other) {
            if (letterCount != other.letterCount) {
                return false;
            }
            for (int i = 0; i < letterCount && i < NAME_LIMIT; i++) {
                if (letters[i] != other.letters[i]) {
                    return false;
                }
            }
            return true;
        }

        int flags() {
            return form == STREAMED ? STREAMED_FLAGS : 0;
        }

        int method() {
            return kind == PACKED ? PACKED_METHOD : 0;
        }

        int trueSize() {
            return kind == PACKED ? toldTrue : octetCount;
        }

        int sum() {
            if (kind == FOLDER) {
                return 0;
            }
            return kind == PACKED || sumWasRead ? toldSum : sumOf(octets, octetCount);
        }

        int extraLength() {
            int length = form == WIDE ? PART_HEAD + WIDE_BYTES : 0;
            for (int k = 0; k < partCount && k < PART_LIMIT; k++) {
                length += PART_HEAD + partSizes[k];
            }
            return length;
        }

        int localLength() {
            int behind = form == STREAMED ? BEHIND_BYTES : 0;
            return LOCAL_FIXED + letterCount + extraLength() + octetCount + behind;
        }

        int centreLength() {
            return CENTRE_FIXED + letterCount + extraLength();
        }

        void putLocal(Store store) {
            localPlace = store.count;
            store.putNumber(LOCAL_SIGN, 4);
            putKindOfRow(store);
            if (form == STREAMED) {
                store.putNumber(0, 4);
                store.putNumber(0, 8);
            } else {
                putSumAndSizes(store);
            }
            store.putNumber(letterCount, 2);
            store.putNumber(extraLength(), 2);
            putNameAndExtra(store);
            store.putCells(octets, 0, octetCount);
            if (form == STREAMED) {
                store.putNumber(BEHIND_SIGN, 4);
                putSumAndSizes(store);
            }
        }

        void putCentre(Store store) {
            store.putNumber(CENTRE_SIGN, 4);
            store.putNumber(PLAIN_VERSION, 2);
            putKindOfRow(store);
            putSumAndSizes(store);
            store.putNumber(letterCount, 2);
            store.putNumber(extraLength(), 2);
            store.putNumber(0, 6);
            store.putNumber(attributeBits, 4);
            store.putNumber(localPlace, 4);
            putNameAndExtra(store);
        }

        private void putKindOfRow(Store store) {
            store.putNumber(form == WIDE ? WIDE_VERSION : PLAIN_VERSION, 2);
            store.putNumber(flags(), 2);
            store.putNumber(method(), 2);
            store.putNumber(timeBits, 2);
            store.putNumber(dayBits, 2);
        }

        private void putSumAndSizes(Store store) {
            store.putNumber(sum(), 4);
            store.putNumber(form == WIDE ? ALL_BITS : octetCount, 4);
            store.putNumber(form == WIDE ? ALL_BITS : trueSize(), 4);
        }

        private void putNameAndExtra(Store store) {
            store.putCells(letters, 0, letterCount);
            if (form == WIDE) {
                store.putNumber(WIDE_ID, 2);
                store.putNumber(WIDE_BYTES, 2);
                store.putNumber(trueSize(), 8);
                store.putNumber(octetCount, 8);
            }
            for (int k = 0; k < partCount && k < PART_LIMIT; k++) {
                store.putNumber(partIds[k], 2);
                store.putNumber(partSizes[k], 2);
                store.putCells(partOctets, k * PART_BYTES, partSizes[k]);
            }
        }

        /** The row has passed every check, so its numbers are within this entry's limits. */
        void takeFrom(Row row, Store store) {
            begin(row.kind(), row.form());
            letterCount = row.nameCount;
            store.copyTo(row.namePlace(), letterCount, letters, 0);
            timeBits = row.timeBits;
            dayBits = row.dayBits;
            attributeBits = row.attributeBits;
            localPlace = (int) row.localPlace;
            takeParts(row, store);
            if (kind == FOLDER) {
                return;
            }
            hasData = true;
            octetCount = (int) row.packedSize;
            store.copyTo(row.dataPlace(), octetCount, octets, 0);
            sumWasRead = true;
            toldSum = (int) row.sumBits;
            toldTrue = kind == PACKED ? (int) row.trueSize : 0;
        }

        private void takeParts(Row row, Store store) {
            int place = row.partsPlace;
            partCount = row.partCount;
            for (int k = 0; k < partCount && k < PART_LIMIT; k++) {
                partIds[k] = store.number2(place);
                partSizes[k] = store.number2(place + 2);
                store.copyTo(place + PART_HEAD, partSizes[k], partOctets, k * PART_BYTES);
                place += PART_HEAD + partSizes[k];
            }
        }
    }

    /** What a CENTRE row tells, kept until all rows have passed, so that a fault changes no ENTRY. */
    private static final class Row {
        int place = 0;
        int flags = 0;
        int method = 0;
        int timeBits = 0;
        int dayBits = 0;
        int attributeBits = 0;
        int nameCount = 0;
        int extraCount = 0;
        int partsPlace = 0;
        int partCount = 0;
        boolean isWide = false;
        boolean isFolder = false;
        long sumBits = 0;
        long shortSize = 0;
        long shortTrue = 0;
        long packedSize = 0;
        long trueSize = 0;
        long localPlace = 0;
        int localEnd = 0;

        void takeFixed(Store store, int newPlace) {
            place = newPlace;
            flags = store.number2(place + 8);
            method = store.number2(place + 10);
            timeBits = store.number2(place + 12);
            dayBits = store.number2(place + 14);
            sumBits = store.number4(place + 16);
            shortSize = store.number4(place + 20);
            shortTrue = store.number4(place + 24);
            nameCount = store.number2(place + 28);
            extraCount = store.number2(place + 30);
            attributeBits = (int) store.number4(place + 38);
            localPlace = store.number4(place + 42);
            isFolder = nameCount > 0 && store.number1(namePlace() + nameCount - 1) == SLASH;
        }

        int namePlace() {
            return place + CENTRE_FIXED;
        }

        int endPlace() {
            return place + CENTRE_FIXED + nameCount + extraCount;
        }

        /** Name and extra bytes of the LOCAL row are as many as here once it has passed. */
        int dataPlace() {
            return (int) localPlace + LOCAL_FIXED + nameCount + extraCount;
        }

        int kind() {
            if (isFolder) {
                return FOLDER;
            }
            return method == PACKED_METHOD ? PACKED : FILE;
        }

        int form() {
            if (isWide) {
                return WIDE;
            }
            return flags == STREAMED_FLAGS ? STREAMED : 0;
        }

        boolean hasKnownForm(Store store) {
            if (method != 0 && method != PACKED_METHOD || flags != 0 && flags != STREAMED_FLAGS) {
                return false;
            }
            return nameCount >= 1 && nameCount <= NAME_LIMIT && takeExtra(store);
        }

        private boolean takeExtra(Store store) {
            int end = endPlace();
            int next = namePlace() + nameCount;
            isWide = extraCount >= PART_HEAD + WIDE_BYTES
                && store.number2(next) == WIDE_ID && store.number2(next + 2) == WIDE_BYTES;
            packedSize = shortSize;
            trueSize = shortTrue;
            if (isWide) {
                trueSize = store.number8(next + PART_HEAD);
                packedSize = store.number8(next + PART_HEAD + 8);
                next += PART_HEAD + WIDE_BYTES;
            }
            partsPlace = next;
            partCount = 0;
            while (partCount < PART_LIMIT && next + PART_HEAD <= end) {
                int length = store.number2(next + 2);
                if (store.number2(next) <= WIDE_ID || length > PART_BYTES) {
                    return false;
                }
                next += PART_HEAD + length;
                partCount++;
            }
            return next == end;
        }

        boolean hasKnownSizes() {
            boolean isAllBits = shortSize == ALL_BITS && shortTrue == ALL_BITS;
            if (isAllBits != isWide) {
                return false;
            }
            if (packedSize < 0 || packedSize > DATA_LIMIT || trueSize < 0 || trueSize > TRUE_LIMIT) {
                return false;
            }
            if (method == 0 && packedSize != trueSize || flags == STREAMED_FLAGS && isWide) {
                return false;
            }
            return !isFolder || packedSize == 0 && trueSize == 0 && method == 0 && flags == 0 && !isWide;
        }

        boolean isSafe(Store store) {
            int name = namePlace();
            int stepStart = 0;
            for (int i = 0; i < nameCount; i++) {
                int letter = store.number1(name + i);
                if (letter == BACKSLASH || letter == SLASH && !isSafeStep(store, name + stepStart, i - stepStart)) {
                    return false;
                }
                if (letter == SLASH) {
                    stepStart = i + 1;
                }
            }
            return stepStart == nameCount || isSafeStep(store, name + stepStart, nameCount - stepStart);
        }

        private static boolean isSafeStep(Store store, int from, int n) {
            boolean isUpward = n == 2 && store.number1(from) == DOT && store.number1(from + 1) == DOT;
            return n != 0 && !isUpward;
        }
    }

    /** One reading of THE BYTES: the rows that were found, or the first fault with its place. */
    private static final class Reading {
        final Store store;
        final Row[] rows = new Row[ENTRY_LIMIT];
        int rowCount = 0;
        int endPlace = 0;
        int remarkCount = 0;
        int centrePlace = 0;
        int centreEnd = 0;
        int faultKind = 0;
        int faultPlace = NONE;

        Reading(Store bytes) {
            store = bytes;
            for (int i = 0; i < ENTRY_LIMIT; i++) {
                rows[i] = new Row();
            }
        }

        boolean isWhole() {
            if (!findEnd() || !takeEnd() || !takeRows()) {
                return false;
            }
            for (int i = 0; i < rowCount && i < ENTRY_LIMIT; i++) {
                if (!isGoodEntry(i)) {
                    return false;
                }
            }
            return true;
        }

        private boolean fail(int kind, int place) {
            faultKind = kind;
            faultPlace = place;
            return false;
        }

        private boolean findEnd() {
            for (int n = 0; n <= COMMENT_LIMIT; n++) {
                int from = store.count - END_FIXED - n;
                if (from >= 0 && store.number4(from) == END_SIGN && store.number2(from + 20) == n) {
                    endPlace = from;
                    remarkCount = n;
                    return true;
                }
            }
            return fail(1, store.count);
        }

        private boolean takeEnd() {
            int rowsHere = store.number2(endPlace + 8);
            long length = store.number4(endPlace + 12);
            long from = store.number4(endPlace + 16);
            if (from + length > endPlace || rowsHere > ENTRY_LIMIT || rowsHere != store.number2(endPlace + 10)) {
                return fail(2, endPlace);
            }
            rowCount = rowsHere;
            centrePlace = (int) from;
            centreEnd = (int) (from + length);
            return true;
        }

        private boolean takeRows() {
            int next = centrePlace;
            for (int i = 0; i < rowCount && i < ENTRY_LIMIT; i++) {
                if (!takeRow(rows[i], next)) {
                    return fail(3, next);
                }
                next = rows[i].endPlace();
            }
            return next == centreEnd || fail(3, next);
        }

        private boolean takeRow(Row row, int from) {
            if (from + CENTRE_FIXED > centreEnd || store.number4(from) != CENTRE_SIGN) {
                return false;
            }
            row.takeFixed(store, from);
            return store.number2(from + 32) == 0 && row.endPlace() <= centreEnd;
        }

        private boolean isGoodEntry(int i) {
            Row row = rows[i];
            if (!row.hasKnownForm(store)) {
                return fail(4, row.place);
            }
            if (!row.hasKnownSizes()) {
                return fail(5, row.place);
            }
            if (!hasLocal(row)) {
                return fail(6, (int) row.localPlace);
            }
            if (!isLocalAsTold(row)) {
                return fail(7, (int) row.localPlace);
            }
            if (!hasDataAsTold(row)) {
                return fail(8, row.dataPlace());
            }
            if (sharesBytes(i)) {
                return fail(9, (int) row.localPlace);
            }
            return row.isSafe(store) || fail(10, row.place);
        }

        private boolean hasLocal(Row row) {
            if (row.localPlace + LOCAL_FIXED > centrePlace) {
                return false;
            }
            int local = (int) row.localPlace;
            int length = LOCAL_FIXED + store.number2(local + 26) + store.number2(local + 28);
            return store.number4(local) == LOCAL_SIGN && local + length <= centrePlace;
        }

        private boolean isLocalAsTold(Row row) {
            int local = (int) row.localPlace;
            // From VERSION to DAY both rows have the same ten bytes, and the two lengths follow the sizes in both.
            if (!store.isSame(local + 4, row.place + 6, 10) || !store.isSame(local + 26, row.place + 28, 4)) {
                return false;
            }
            if (!store.isSame(local + LOCAL_FIXED, row.namePlace(), row.nameCount + row.extraCount)) {
                return false;
            }
            if (row.form() == STREAMED) {
                return store.number4(local + 14) == 0 && store.number8(local + 18) == 0;
            }
            return store.isSame(local + 14, row.place + 16, 12);
        }

        private boolean hasDataAsTold(Row row) {
            int dataEnd = row.dataPlace() + (int) row.packedSize;
            boolean isStreamed = row.form() == STREAMED;
            row.localEnd = isStreamed ? dataEnd + BEHIND_BYTES : dataEnd;
            if (row.localEnd > centrePlace) {
                return false;
            }
            return !isStreamed
                || store.number4(dataEnd) == BEHIND_SIGN && store.isSame(dataEnd + 4, row.place + 16, 12);
        }

        private boolean sharesBytes(int i) {
            Row row = rows[i];
            for (int j = 0; j < i; j++) {
                if (row.localPlace < rows[j].localEnd && rows[j].localPlace < row.localEnd) {
                    return true;
                }
            }
            return false;
        }
    }
}
