import java.util.Arrays;

/**
 * A reader of tales who keeps who is spoken of. The document (DOC.md) says what each call does; the
 * words in capitals here are the document's.
 */
public final class TaleReader {
    public static final int NONE = -1;

    private static final int MAX_SIGNS = 600;
    private static final int SIGNS_A_FEED = 20;
    private static final int MAX_WORDS = 300;
    private static final int MAX_MENTIONS = 80;
    private static final int MAX_PERSONS = 30;
    private static final int MAX_TOLD = 8;
    private static final int MAX_PINS = 20;

    private static final int LEAST_LETTERS = 2;
    private static final int MOST_LETTERS = 10;
    private static final int LEAST_SHARED_LETTERS = 3;
    private static final int SENTENCES_BACK = 2;
    private static final int FULL_STOP = 46;

    private static final int UNKNOWN_SEX = 0;
    private static final int MAX_TOLD_SEX = 3;
    private static final int GROUP_SEX = 4;

    // Kinds of WORDS: 0 a NAME, 1 .. 4 a HE-WORD of that SEX, as mention(j, 3) tells them.
    private static final int NAME = 0;
    private static final int MAX_HE_WORD = 4;
    private static final int OTHER = 5;
    private static final int AND = 6;
    private static final int IS = 7;
    private static final int NAME_IF_TOLD = 8;

    private final Text tape;
    private final Words words;
    private final ToldNames told;
    private final Pins pins;
    private final Mentions mentions;
    private final Cast cast;
    private final Names names;
    private final Reading reading;

    public TaleReader() {
        tape = new Text(MAX_SIGNS);
        words = new Words();
        told = new ToldNames();
        pins = new Pins();
        mentions = new Mentions(words);
        cast = new Cast();
        names = new Names(mentions);
        reading = new Reading(mentions, pins, cast, names);
    }

    public int feed(int a, int b, int c, int d, int e) {
        if (tape.size() + SIGNS_A_FEED > MAX_SIGNS) {
            return NONE;
        }
        tape.addNumber(a);
        tape.addNumber(b);
        tape.addNumber(c);
        tape.addNumber(d);
        tape.addNumber(e);
        return tape.size();
    }

    public boolean end(int n) {
        return tape.shorten(n);
    }

    public int read() {
        words.take(tape);
        tape.clear();
        pins.clear();
        readAnew();
        return mentions.size();
    }

    public boolean tell(int sex) {
        boolean taken = told.take(tape, sex);
        // The TAPE is empty behind a refused call, too: "nothing ELSE is done".
        tape.clear();
        if (taken) {
            readAnew();
        }
        return taken;
    }

    public void forget() {
        told.clear();
        readAnew();
    }

    public boolean pin(int j, int k) {
        if (!mentions.has(j) || !mentions.has(k) || k >= j || pins.size() >= MAX_PINS) {
            return false;
        }
        pins.put(j, k);
        readAnew();
        return true;
    }

    public boolean loose(int j) {
        if (pins.targetOf(j) == NONE) {
            return false;
        }
        pins.drop(j);
        readAnew();
        return true;
    }

    public int look(int what) {
        switch (what) {
            case 0: return mentions.size();
            case 1: return cast.size();
            case 2: return words.sentenceCount();
            case 3: return reading.doubtCount();
            case 4: return reading.countOf(NONE);
            case 5: return mentions.isCut() ? 1 : 0;
            case 6: return pins.size();
            case 7: return told.size();
            default: return NONE;
        }
    }

    public int mention(int j, int what) {
        if (!mentions.has(j)) {
            return NONE;
        }
        switch (what) {
            case 0: return mentions.placeOf(j);
            case 1: return mentions.lengthOf(j);
            case 2: return mentions.sentenceOf(j);
            case 3: return mentions.kindOf(j);
            case 4: return reading.personOf(j);
            case 5: return reading.fitOf(j);
            case 6: return reading.isInDoubt(j) ? 1 : 0;
            default: return NONE;
        }
    }

    public int person(int p, int what) {
        int now = cast.nowOf(p);
        if (now == NONE) {
            return NONE;
        }
        switch (what) {
            case 0: return now;
            case 1: return cast.sexOf(now);
            case 2: return reading.countOf(now);
            case 3: return names.countOf(now);
            case 4: return cast.membersOf(now);
            case 5: return cast.joinedTo(p);
            default: return NONE;
        }
    }

    public int chain(int p, int k) {
        int now = cast.nowOf(p);
        return now == NONE ? NONE : reading.mentionOf(now, k);
    }

    public int name(int p, int i) {
        int now = cast.nowOf(p);
        return now == NONE ? NONE : names.firstMentionOf(now, i);
    }

    public int who(int j) {
        return mentions.isName(j) ? names.ownerOf(j) : NONE;
    }

    private void readAnew() {
        mentions.gather(told);
        cast.clear();
        names.clear();
        for (int j = 0; j < mentions.size(); j++) {
            reading.readMention(j);
        }
    }

    private static boolean isSmall(int sign) {
        return sign >= 'a' && sign <= 'z';
    }

    private static boolean isCapital(int sign) {
        return sign >= 'A' && sign <= 'Z';
    }

    /** Bytes in a row of a fixed room; what is asked of places that it has not is answered "no". */
    private static final class Text {
        private final byte[] signs;
        private int size;

        Text(int room) {
            signs = new byte[Math.max(room, 0)];
            size = 0;
        }

        int size() {
            return size;
        }

        void clear() {
            size = 0;
        }

        boolean shorten(int n) {
            if (n < 0 || n > size) {
                return false;
            }
            size = n;
            return true;
        }

        void addNumber(int number) {
            for (int shift = 24; shift >= 0; shift -= 8) {
                addSign(number >>> shift);
            }
        }

        void addAll(Text other) {
            for (int i = 0; i < other.size; i++) {
                addSign(other.signAt(i));
            }
        }

        private void addSign(int sign) {
            if (size < signs.length) {
                signs[size] = (byte) sign;
                size++;
            }
        }

        int signAt(int place) {
            return holds(place, 1) ? signs[place] : 0;
        }

        private boolean holds(int place, int length) {
            return place >= 0 && length >= 0 && length <= size && place <= size - length;
        }

        int lettersFrom(int place) {
            int length = 0;
            for (int i = place; i < size; i++) {
                int sign = signAt(i);
                if (!isSmall(sign) && !isCapital(sign)) {
                    break;
                }
                length++;
            }
            return length;
        }

        boolean looksLikeName(int place, int length) {
            if (length < LEAST_LETTERS || length > MOST_LETTERS || !holds(place, length)) {
                return false;
            }
            if (!isCapital(signs[place])) {
                return false;
            }
            for (int i = 1; i < length; i++) {
                if (!isSmall(signs[place + i])) {
                    return false;
                }
            }
            return true;
        }

        boolean spells(int place, int length, String word) {
            return isSmall(signAt(place)) && spellsWithAnyFirst(place, length, word);
        }

        /** The SEX of the HE-WORD that stands there, small or with a capital letter; 0 if it is none. */
        int heWordSex(int place, int length) {
            if (spellsOne(place, length, "he", "him", "his")) {
                return 1;
            }
            if (spellsOne(place, length, "she", "her", "hers")) {
                return 2;
            }
            if (spellsOne(place, length, "it", "its", "its")) {
                return 3;
            }
            return spellsOne(place, length, "they", "them", "their") ? 4 : 0;
        }

        private boolean spellsOne(int place, int length, String a, String b, String c) {
            return spellsWithAnyFirst(place, length, a)
                || spellsWithAnyFirst(place, length, b)
                || spellsWithAnyFirst(place, length, c);
        }

        private boolean spellsWithAnyFirst(int place, int length, String word) {
            if (length != word.length() || length == 0 || !holds(place, length)) {
                return false;
            }
            int first = signs[place];
            int small = isCapital(first) ? first - 'A' + 'a' : first;
            if (small != word.charAt(0)) {
                return false;
            }
            for (int i = 1; i < length; i++) {
                if (signs[place + i] != word.charAt(i)) {
                    return false;
                }
            }
            return true;
        }

        boolean sameAs(int place, Text other, int otherPlace, int length) {
            if (place < 0 || otherPlace < 0 || length > size - place || length > other.size - otherPlace) {
                return false;
            }
            for (int i = 0; i < length; i++) {
                if (signs[place + i] != other.signs[otherPlace + i]) {
                    return false;
                }
            }
            return true;
        }
    }

    /** The TALE and its WORDS, with all that can be said of them whatever is TOLD or pinned. */
    private static final class Words {
        private final Text tale;
        private final int[] places;
        private final int[] lengths;
        private final int[] sentences;
        private final int[] kinds;
        private int count;
        private int sentenceCount;

        Words() {
            tale = new Text(MAX_SIGNS);
            places = new int[MAX_WORDS];
            lengths = new int[MAX_WORDS];
            sentences = new int[MAX_WORDS];
            kinds = new int[MAX_WORDS];
            count = 0;
            sentenceCount = 0;
        }

        void take(Text tape) {
            tale.clear();
            tale.addAll(tape);
            split();
            for (int w = 0; w < count; w++) {
                kinds[w] = kindBySpelling(w);
            }
            for (int w = 0; w < count; w++) {
                if (kinds[w] == NAME_IF_TOLD && isNameInsideSentence(w)) {
                    kinds[w] = NAME;
                }
            }
        }

        private void split() {
            count = 0;
            int ended = 0;
            boolean open = false;
            int length;
            for (int place = 0; place < tale.size(); place += Math.max(length, 1)) {
                length = tale.lettersFrom(place);
                if (length > 0) {
                    add(place, length, ended);
                    open = true;
                } else if (tale.signAt(place) == FULL_STOP) {
                    ended++;
                    open = false;
                }
            }
            sentenceCount = open ? ended + 1 : ended;
        }

        private void add(int place, int length, int sentence) {
            if (count < MAX_WORDS) {
                places[count] = place;
                lengths[count] = length;
                sentences[count] = sentence;
                count++;
            }
        }

        private int kindBySpelling(int w) {
            int place = placeOf(w);
            int length = lengthOf(w);
            int sex = tale.heWordSex(place, length);
            if (sex > 0) {
                return isSmall(tale.signAt(place)) || isFirst(w) ? sex : OTHER;
            }
            if (tale.looksLikeName(place, length)) {
                return isFirst(w) ? NAME_IF_TOLD : NAME;
            }
            if (tale.spells(place, length, "and")) {
                return AND;
            }
            boolean is = tale.spells(place, length, "is") || tale.spells(place, length, "was");
            return is ? IS : OTHER;
        }

        private boolean isFirst(int w) {
            return w == 0 || sentenceOf(w - 1) != sentenceOf(w);
        }

        private boolean isNameInsideSentence(int w) {
            for (int v = 0; v < count; v++) {
                if (kinds[v] == NAME && !isFirst(v) && lengths[v] == lengthOf(w) && beginsWith(v, w)) {
                    return true;
                }
            }
            return false;
        }

        boolean beginsWith(int whole, int part) {
            return lengthOf(part) <= lengthOf(whole)
                && tale.sameAs(placeOf(whole), tale, placeOf(part), lengthOf(part));
        }

        boolean has(int w) {
            return w >= 0 && w < count;
        }

        int size() {
            return count;
        }

        int sentenceCount() {
            return sentenceCount;
        }

        Text tale() {
            return tale;
        }

        int placeOf(int w) {
            return has(w) ? places[w] : 0;
        }

        int lengthOf(int w) {
            return has(w) ? lengths[w] : 0;
        }

        int sentenceOf(int w) {
            return has(w) ? sentences[w] : NONE;
        }

        int kindOf(int w) {
            return has(w) ? kinds[w] : OTHER;
        }
    }

    /** The TOLD NAMES, each with its SEX. */
    private static final class ToldNames {
        private final Text letters;
        private final int[] starts;
        private final int[] lengths;
        private final int[] sexes;
        private int count;

        ToldNames() {
            letters = new Text(MAX_TOLD * MOST_LETTERS);
            starts = new int[MAX_TOLD];
            lengths = new int[MAX_TOLD];
            sexes = new int[MAX_TOLD];
            count = 0;
        }

        int size() {
            return count;
        }

        void clear() {
            count = 0;
            letters.clear();
        }

        boolean take(Text spelling, int sex) {
            int length = spelling.size();
            if (!spelling.looksLikeName(0, length) || spelling.heWordSex(0, length) > 0) {
                return false;
            }
            if (sex < UNKNOWN_SEX || sex > MAX_TOLD_SEX) {
                return false;
            }
            int found = find(spelling, 0, length);
            if (found == NONE && count >= MAX_TOLD) {
                return false;
            }
            int slot = found == NONE ? append(spelling) : found;
            sexes[slot] = sex;
            return true;
        }

        private int append(Text spelling) {
            int slot = Math.min(count, MAX_TOLD - 1);
            starts[slot] = letters.size();
            lengths[slot] = spelling.size();
            letters.addAll(spelling);
            count = slot + 1;
            return slot;
        }

        /** Which TOLD NAME stands at a place of a text; NONE if none does. */
        int find(Text text, int place, int length) {
            for (int i = 0; i < count; i++) {
                if (lengths[i] == length && text.sameAs(place, letters, starts[i], length)) {
                    return i;
                }
            }
            return NONE;
        }

        int sexOf(int slot) {
            return slot >= 0 && slot < count ? sexes[slot] : UNKNOWN_SEX;
        }
    }

    /** The PINS, by the number of the MENTION that is pinned. */
    private static final class Pins {
        private final int[] targets;
        private int count;

        Pins() {
            targets = new int[MAX_MENTIONS];
            Arrays.fill(targets, NONE);
            count = 0;
        }

        int size() {
            return count;
        }

        void clear() {
            Arrays.fill(targets, NONE);
            count = 0;
        }

        int targetOf(int j) {
            return j >= 0 && j < MAX_MENTIONS ? targets[j] : NONE;
        }

        void put(int j, int k) {
            if (j >= 0 && j < MAX_MENTIONS) {
                if (targets[j] == NONE) {
                    count++;
                }
                targets[j] = k;
            }
        }

        void drop(int j) {
            if (targetOf(j) != NONE) {
                targets[j] = NONE;
                count--;
            }
        }
    }

    /** The MENTIONS: where each stands, and the WORD that links it to the NAME ahead. */
    private static final class Mentions {
        private final Words words;
        private final int[] wordNumbers;
        private final int[] places;
        private final int[] lengths;
        private final int[] sentences;
        private final int[] kinds;
        private final int[] links;
        private final int[] toldSexes;
        private int count;
        private boolean cut;

        Mentions(Words words) {
            this.words = words;
            wordNumbers = new int[MAX_MENTIONS];
            places = new int[MAX_MENTIONS];
            lengths = new int[MAX_MENTIONS];
            sentences = new int[MAX_MENTIONS];
            kinds = new int[MAX_MENTIONS];
            links = new int[MAX_MENTIONS];
            toldSexes = new int[MAX_MENTIONS];
            count = 0;
            cut = false;
        }

        void gather(ToldNames told) {
            count = 0;
            cut = false;
            for (int w = 0; w < words.size(); w++) {
                int kind = words.kindOf(w);
                int slot = NONE;
                if (kind == NAME || kind == NAME_IF_TOLD) {
                    slot = told.find(words.tale(), words.placeOf(w), words.lengthOf(w));
                }
                if (kind == NAME_IF_TOLD && slot != NONE) {
                    kind = NAME;
                }
                if (kind >= NAME && kind <= MAX_HE_WORD) {
                    add(w, kind, told.sexOf(slot));
                }
            }
        }

        private void add(int w, int kind, int toldSex) {
            if (count >= MAX_MENTIONS) {
                cut = true;
                return;
            }
            wordNumbers[count] = w;
            places[count] = words.placeOf(w);
            lengths[count] = words.lengthOf(w);
            sentences[count] = words.sentenceOf(w);
            kinds[count] = kind;
            links[count] = linkAhead(w, kind);
            toldSexes[count] = toldSex;
            count++;
        }

        /** AND or IS, if just that WORD stands between the last NAME so far and the NAME w; else OTHER. */
        private int linkAhead(int w, int kind) {
            int ahead = count - 1;
            if (kind != NAME || kindOf(ahead) != NAME || wordNumbers[ahead] != w - 2) {
                return OTHER;
            }
            int link = words.kindOf(w - 1);
            boolean linked = (link == AND || link == IS) && sentences[ahead] == words.sentenceOf(w);
            return linked ? link : OTHER;
        }

        int size() {
            return count;
        }

        boolean isCut() {
            return cut;
        }

        boolean has(int j) {
            return j >= 0 && j < count;
        }

        int placeOf(int j) {
            return has(j) ? places[j] : 0;
        }

        int lengthOf(int j) {
            return has(j) ? lengths[j] : 0;
        }

        int sentenceOf(int j) {
            return has(j) ? sentences[j] : NONE;
        }

        int kindOf(int j) {
            return has(j) ? kinds[j] : OTHER;
        }

        boolean isName(int j) {
            return has(j) && kinds[j] == NAME;
        }

        int linkOf(int j) {
            return has(j) ? links[j] : OTHER;
        }

        int toldSexOf(int j) {
            return has(j) ? toldSexes[j] : UNKNOWN_SEX;
        }

        boolean beginsWith(int whole, int part) {
            return has(whole) && has(part) && lengths[part] <= lengths[whole]
                && words.tale().sameAs(places[whole], words.tale(), places[part], lengths[part]);
        }

        boolean sameName(int a, int b) {
            return has(a) && has(b) && lengths[a] == lengths[b]
                && words.tale().sameAs(places[a], words.tale(), places[b], lengths[a]);
        }
    }

    /** The PERSONS and GROUPS: who they are, who was JOINED to whom, and where each was mentioned last. */
    private static final class Cast {
        private final int[] sexes;
        private final int[] joined;
        private final int[] members;
        private final int[] lastMentions;
        private int count;

        Cast() {
            sexes = new int[MAX_PERSONS];
            joined = new int[MAX_PERSONS];
            members = new int[MAX_PERSONS];
            lastMentions = new int[MAX_PERSONS];
            count = 0;
        }

        int size() {
            return count;
        }

        void clear() {
            count = 0;
        }

        boolean has(int p) {
            return p >= 0 && p < count;
        }

        /** A new PERSON's number; NONE if there would be too many. */
        int add(int sex, int memberSet) {
            if (count >= MAX_PERSONS) {
                return NONE;
            }
            sexes[count] = sex;
            joined[count] = NONE;
            members[count] = memberSet;
            lastMentions[count] = NONE;
            count++;
            return count - 1;
        }

        /** The least GROUP of just these PERSONS, a new one if there is none. */
        int groupOf(int memberSet) {
            for (int p = 0; p < count; p++) {
                if (isGroup(p) && members[p] == memberSet) {
                    return p;
                }
            }
            return add(GROUP_SEX, memberSet);
        }

        int joinedTo(int p) {
            return has(p) ? joined[p] : NONE;
        }

        boolean stands(int p) {
            return has(p) && joined[p] == NONE;
        }

        /** The PERSON that p is by now, as JOINED. */
        int nowOf(int p) {
            int now = has(p) ? p : NONE;
            // A JOINED one's number is greater than that of the other, so that this ends by itself.
            for (int step = 0; step < MAX_PERSONS && has(now) && joined[now] != NONE; step++) {
                now = joined[now];
            }
            return now;
        }

        int sexOf(int p) {
            return has(p) ? sexes[p] : UNKNOWN_SEX;
        }

        /** Gives a SEX to a PERSON of whom none is known. */
        void learnSex(int p, int sex) {
            if (has(p) && sexes[p] == UNKNOWN_SEX) {
                sexes[p] = sex;
            }
        }

        boolean isGroup(int p) {
            return has(p) && sexes[p] == GROUP_SEX;
        }

        int membersOf(int p) {
            return has(p) ? members[p] : 0;
        }

        int lastMentionOf(int p) {
            return has(p) ? lastMentions[p] : NONE;
        }

        void noteMention(int p, int j) {
            if (has(p)) {
                lastMentions[p] = Math.max(lastMentions[p], j);
            }
        }

        boolean canJoin(int p, int q) {
            if (!stands(p) || !stands(q) || p == q || isGroup(p) || isGroup(q)) {
                return false;
            }
            return sexes[p] == UNKNOWN_SEX || sexes[q] == UNKNOWN_SEX || sexes[p] == sexes[q];
        }

        void join(int goes, int stays) {
            if (!has(goes) || !has(stays)) {
                return;
            }
            joined[goes] = stays;
            learnSex(stays, sexes[goes]);
            noteMention(stays, lastMentions[goes]);
            for (int p = 0; p < count; p++) {
                if ((members[p] & 1 << goes) != 0) {
                    members[p] = members[p] & ~(1 << goes) | 1 << stays;
                }
            }
        }
    }

    /** The NAMES that PERSONS have, each PERSON's in their order, by the MENTION at which each came. */
    private static final class Names {
        private final Mentions mentions;
        private final int[] firstMentions;
        private final int[] owners;
        private int count;

        Names(Mentions mentions) {
            this.mentions = mentions;
            firstMentions = new int[MAX_MENTIONS];
            owners = new int[MAX_MENTIONS];
            count = 0;
        }

        void clear() {
            count = 0;
        }

        void add(int j, int owner) {
            if (count < MAX_MENTIONS && owner != NONE) {
                firstMentions[count] = j;
                owners[count] = owner;
                count++;
            }
        }

        int ownerOf(int j) {
            for (int i = 0; i < count; i++) {
                if (mentions.sameName(firstMentions[i], j)) {
                    return owners[i];
                }
            }
            return NONE;
        }

        /** Whose NAMES begin with the NAME of MENTION j; NONE unless they are just one PERSON's. */
        int ownerOfLonger(int j) {
            if (mentions.lengthOf(j) < LEAST_SHARED_LETTERS) {
                return NONE;
            }
            int found = NONE;
            for (int i = 0; i < count; i++) {
                if (mentions.beginsWith(firstMentions[i], j)) {
                    if (found != NONE && found != owners[i]) {
                        return NONE;
                    }
                    found = owners[i];
                }
            }
            return found;
        }

        /** With whose NAMES the NAME of MENTION j begins; NONE unless they are just one PERSON's. */
        int ownerOfShorter(int j) {
            int found = NONE;
            for (int i = 0; i < count; i++) {
                boolean longEnough = mentions.lengthOf(firstMentions[i]) >= LEAST_SHARED_LETTERS;
                if (longEnough && mentions.beginsWith(j, firstMentions[i])) {
                    if (found != NONE && found != owners[i]) {
                        return NONE;
                    }
                    found = owners[i];
                }
            }
            return found;
        }

        /** Hands one PERSON's NAMES to another, behind all others, and so behind the other's own. */
        void handOver(int from, int to) {
            int i = 0;
            for (int seen = 0; seen < count; seen++) {
                if (owners[i] == from) {
                    moveToEnd(i);
                    owners[count - 1] = to;
                } else {
                    i++;
                }
            }
        }

        private void moveToEnd(int i) {
            if (i < 0 || i >= count) {
                return;
            }
            int moved = firstMentions[i];
            System.arraycopy(firstMentions, i + 1, firstMentions, i, count - 1 - i);
            System.arraycopy(owners, i + 1, owners, i, count - 1 - i);
            firstMentions[count - 1] = moved;
        }

        int countOf(int owner) {
            int found = 0;
            for (int i = 0; i < count; i++) {
                if (owners[i] == owner) {
                    found++;
                }
            }
            return found;
        }

        int firstMentionOf(int owner, int wanted) {
            int found = 0;
            for (int i = 0; i < count; i++) {
                if (owners[i] == owner) {
                    if (found == wanted) {
                        return firstMentions[i];
                    }
                    found++;
                }
            }
            return NONE;
        }
    }

    /** Whose each MENTION is, and how sure that is: the rules behind "==== 2." of the document. */
    private static final class Reading {
        private final Mentions mentions;
        private final Pins pins;
        private final Cast cast;
        private final Names names;
        private final int[] persons;
        private final int[] fits;
        private final boolean[] doubts;

        Reading(Mentions mentions, Pins pins, Cast cast, Names names) {
            this.mentions = mentions;
            this.pins = pins;
            this.cast = cast;
            this.names = names;
            persons = new int[MAX_MENTIONS];
            fits = new int[MAX_MENTIONS];
            doubts = new boolean[MAX_MENTIONS];
        }

        /** Reads MENTION j, all those ahead of it being read. */
        void readMention(int j) {
            if (!mentions.has(j)) {
                return;
            }
            fits[j] = 0;
            doubts[j] = false;
            if (pins.targetOf(j) != NONE) {
                persons[j] = readPinned(j);
            } else if (mentions.isName(j)) {
                persons[j] = readName(j);
            } else {
                persons[j] = readHeWord(j);
            }
            cast.noteMention(persons[j], j);
            int link = mentions.linkOf(j);
            if (link == IS) {
                joinIfPossible(personOf(j - 1), personOf(j));
            }
            if (link == AND && mentions.linkOf(j + 1) != AND) {
                mentionGroup(j);
            }
        }

        private int readPinned(int j) {
            int person = personOf(pins.targetOf(j));
            if (mentions.isName(j) && !cast.isGroup(person) && names.ownerOf(j) == NONE) {
                names.add(j, person);
            }
            return person;
        }

        private int readName(int j) {
            int owner = names.ownerOf(j);
            if (owner != NONE) {
                return owner;
            }
            int toldSex = mentions.toldSexOf(j);
            owner = names.ownerOfLonger(j);
            if (owner == NONE) {
                owner = names.ownerOfShorter(j);
            }
            if (owner == NONE) {
                owner = cast.add(toldSex, 0);
            } else {
                cast.learnSex(owner, toldSex);
            }
            names.add(j, owner);
            return owner;
        }

        private int readHeWord(int j) {
            int sex = mentions.kindOf(j);
            int last = NONE;
            int secondLast = NONE;
            for (int p = 0; p < cast.size(); p++) {
                if (fitsHeWord(p, sex, j)) {
                    fits[j] |= 1 << p;
                    if (cast.lastMentionOf(p) > cast.lastMentionOf(last)) {
                        secondLast = last;
                        last = p;
                    } else if (cast.lastMentionOf(p) > cast.lastMentionOf(secondLast)) {
                        secondLast = p;
                    }
                }
            }
            doubts[j] = secondLast != NONE && lastSentenceOf(secondLast) == lastSentenceOf(last);
            cast.learnSex(last, sex);
            return last;
        }

        private boolean fitsHeWord(int p, int sex, int j) {
            if (!cast.stands(p) || cast.lastMentionOf(p) == NONE) {
                return false;
            }
            int own = cast.sexOf(p);
            boolean sexFits = own == sex || own == UNKNOWN_SEX && sex != GROUP_SEX;
            int sentence = mentions.sentenceOf(cast.lastMentionOf(p));
            return sexFits && sentence >= mentions.sentenceOf(j) - SENTENCES_BACK;
        }

        private int lastSentenceOf(int p) {
            return mentions.sentenceOf(cast.lastMentionOf(p));
        }

        private void joinIfPossible(int p, int q) {
            if (cast.canJoin(p, q)) {
                int goes = Math.max(p, q);
                int stays = Math.min(p, q);
                cast.join(goes, stays);
                names.handOver(goes, stays);
            }
        }

        /** Mentions the GROUP of the NAMES that are linked by AND up to j, if it is one. */
        private void mentionGroup(int j) {
            int memberSet = 0;
            boolean linked = true;
            for (int i = j; i >= 0 && linked; i--) {
                int person = personOf(i);
                if (person == NONE || cast.isGroup(person)) {
                    return;
                }
                memberSet |= 1 << person;
                linked = mentions.linkOf(i) == AND;
            }
            if (Integer.bitCount(memberSet) >= 2) {
                cast.noteMention(cast.groupOf(memberSet), j);
            }
        }

        int personOf(int j) {
            return mentions.has(j) ? cast.nowOf(persons[j]) : NONE;
        }

        int fitOf(int j) {
            return mentions.has(j) ? fits[j] : 0;
        }

        boolean isInDoubt(int j) {
            return mentions.has(j) && doubts[j];
        }

        int doubtCount() {
            int found = 0;
            for (int j = 0; j < mentions.size(); j++) {
                if (isInDoubt(j)) {
                    found++;
                }
            }
            return found;
        }

        int countOf(int person) {
            int found = 0;
            for (int j = 0; j < mentions.size(); j++) {
                if (personOf(j) == person) {
                    found++;
                }
            }
            return found;
        }

        int mentionOf(int person, int wanted) {
            int found = 0;
            for (int j = 0; j < mentions.size(); j++) {
                if (personOf(j) == person) {
                    if (found == wanted) {
                        return j;
                    }
                    found++;
                }
            }
            return NONE;
        }
    }
}
