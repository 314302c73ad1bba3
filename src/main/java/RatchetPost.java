/**
 * Post between four users whose keys never stand still.
 *
 * <p>Rows are made once and used again, so that a long run of calls makes little: only a session that finds its list
 * not yet full makes rows after the constructor.
 */
public final class RatchetPost {
    public static final int NONE = -1;
    public static final int OPENED = 0;
    public static final int FALSE = 1;
    public static final int TOO_FAR = 2;
    public static final int NO_PREKEY = 3;
    public static final int MALFORMED = 4;
    public static final int USED = 5;
    public static final int NO_SESSION = 6;

    private static final int P = 2147483647;
    private static final int G = 7;
    private static final int KEY_WORDS = 8;
    private static final int[] ZERO = {0, 0, 0, 0, 0, 0, 0, 0};
    private static final int[] HEAD = {1634760805, 857760878, 2036477234, 1797285236};

    private static final int USERS = 4;
    private static final int MOST_ONE_TIME_PAIRS = 10;
    private static final int MOST_OFFERED = 6;
    private static final int MOST_SESSIONS = 3;
    private static final int MOST_ENVELOPES = 60;
    private static final int MOST_SKIPPED = 12;
    private static final int FARTHEST = 8;
    private static final int HIGHEST_NUMBER = 1000;

    private static final int BEGUN = 0;
    private static final int ENTRY_DOES_NOT_HOLD = 1;

    private static final int FIRST = 0;
    private static final int FURTHER = 1;

    private static final int SENDER = 0;
    private static final int RECEIVER = 1;
    private static final int KIND = 2;
    private static final int IDENTITY = 3;
    private static final int EPHEMERAL = 4;
    private static final int SIGNED = 5;
    private static final int ONE_TIME = 6;
    private static final int RATCHET = 7;
    private static final int NUMBER = 8;
    private static final int PREVIOUS = 9;
    private static final int CIPHER = 10;
    private static final int TAG = 11;
    private static final int FIELDS = 12;

    private final Mixer mixer = new Mixer();
    private final Account[] accounts = new Account[USERS];
    private final SessionList[] lists = new SessionList[USERS * USERS];
    private final long[][] letters = new long[MOST_ENVELOPES][FIELDS];
    private int letterCount = 0;
    private long latestText = 0;

    /** A session that stands in no list: what is tried or begun is tried or begun here first. */
    private Session trial = new Session();
    private final Pair ephemeral = new Pair();
    private final int[] messageKey = new int[KEY_WORDS];
    private final int[] block = new int[KEY_WORDS];

    public RatchetPost() {
        for (int u = 0; u < USERS; u++) {
            accounts[u] = new Account(u);
        }
        for (int i = 0; i < USERS * USERS; i++) {
            lists[i] = new SessionList();
        }
    }

    public boolean register(int u, long entropy) {
        if (u < 0 || u >= USERS || accounts[u].registered) {
            return false;
        }
        accounts[u].enter(mixer, entropy);
        return true;
    }

    public boolean rotate(int u) {
        if (!isRegistered(u)) {
            return false;
        }
        accounts[u].renewSigned(mixer);
        return true;
    }

    public int prekeys(int u, int n) {
        if (!isRegistered(u) || n < 1 || n > MOST_OFFERED) {
            return NONE;
        }
        return accounts[u].offerOneTime(mixer, n);
    }

    public boolean spoil(int u, int what, int mask) {
        if (!isRegistered(u)) {
            return false;
        }
        Entry entry = accounts[u].entry;
        switch (what) {
            case 0:
                entry.identity ^= mask;
                return true;
            case 1:
                entry.signed ^= mask;
                return true;
            case 2:
                entry.nonce ^= mask;
                return true;
            case 3:
                entry.proof ^= mask;
                return true;
            default:
                return false;
        }
    }

    public int begin(int a, int b) {
        if (!areTwoRegistered(a, b)) {
            return NONE;
        }
        Entry entry = accounts[b].entry;
        int oneTime = entry.handOut();
        if (!entry.holds(mixer)) {
            return ENTRY_DOES_NOT_HOLD;
        }
        accounts[a].draw(mixer, ephemeral);
        trial.clear();
        trial.base = ephemeral.publicKey;
        trial.begunHere = true;
        trial.startSigned = entry.signed;
        trial.startOneTime = oneTime;
        agreeAsFirst(accounts[a].identity, entry, oneTime);
        accounts[a].draw(mixer, trial.ratchet);
        trial.theirs = entry.signed;
        trial.step(mixer, trial.sending);
        trial = listOf(a, b).putInFront(trial);
        return BEGUN;
    }

    public int send(int a, int b, long text) {
        if (!areTwoRegistered(a, b) || listOf(a, b).count == 0 || letterCount >= MOST_ENVELOPES) {
            return NONE;
        }
        Session active = listOf(a, b).rows[0];
        long[] letter = letters[letterCount];
        letter[SENDER] = a;
        letter[RECEIVER] = b;
        letter[KIND] = active.isUnanswered() ? FIRST : FURTHER;
        // In a FURTHER one these four stay 0, as the row was made: no row serves two envelopes.
        if (active.isUnanswered()) {
            letter[IDENTITY] = accounts[a].identity.publicKey;
            letter[EPHEMERAL] = active.base;
            letter[SIGNED] = active.startSigned;
            letter[ONE_TIME] = active.startOneTime;
        }
        letter[RATCHET] = active.ratchet.publicKey;
        letter[NUMBER] = active.ns;
        letter[PREVIOUS] = active.pn;
        mixer.take(messageKey, active.sending);
        letter[CIPHER] = text ^ mixer.wideWord(messageKey, 9, 0, 0, 0);
        letter[TAG] = tagOf(letter);
        active.ns++;
        letterCount++;
        return letterCount - 1;
    }

    public boolean alter(int e, int field, long mask) {
        if (!isField(e, field)) {
            return false;
        }
        letters[e][field] ^= mask;
        return true;
    }

    public int copy(int e) {
        if (!isEnvelope(e) || letterCount >= MOST_ENVELOPES) {
            return NONE;
        }
        System.arraycopy(letters[e], 0, letters[letterCount], 0, FIELDS);
        letterCount++;
        return letterCount - 1;
    }

    public int open(int e) {
        if (!isEnvelope(e)) {
            return NONE;
        }
        long[] letter = letters[e];
        if (isMalformed(letter)) {
            return MALFORMED;
        }
        SessionList list = listOf((int) letter[RECEIVER], (int) letter[SENDER]);
        if (letter[KIND] == FURTHER) {
            return openFurther(letter, list);
        }
        int place = list.placeOfBase((int) letter[EPHEMERAL]);
        return place == NONE ? openWithNewSession(letter, list) : openWithSessionAt(letter, list, place);
    }

    public long text() {
        return latestText;
    }

    public long envelope(int e, int field) {
        return isField(e, field) ? letters[e][field] : NONE;
    }

    public int user(int u, int what) {
        if (!isRegistered(u)) {
            return NONE;
        }
        Account account = accounts[u];
        switch (what) {
            case 0:
                return account.identity.publicKey;
            case 1:
                return account.signed.publicKey;
            case 2:
                return account.hasOld ? account.old.publicKey : 0;
            case 3:
                return account.draws;
            case 4:
                return account.oneTimeCount;
            case 5:
                return account.entry.offeredCount;
            case 6:
                return account.entry.identity;
            case 7:
                return account.entry.signed;
            case 8:
                return account.entry.nonce;
            case 9:
                return account.entry.proof;
            default:
                return NONE;
        }
    }

    public int sessions(int u, int v) {
        return areTwoRegistered(u, v) ? listOf(u, v).count : NONE;
    }

    public int session(int u, int v, int k, int what) {
        if (!areTwoRegistered(u, v) || k < 0 || k >= listOf(u, v).count) {
            return NONE;
        }
        Session asked = listOf(u, v).rows[k];
        switch (what) {
            case 0:
                return asked.base;
            case 1:
                return asked.ns;
            case 2:
                return asked.nr;
            case 3:
                return asked.pn;
            case 4:
                return asked.skipped.count;
            case 5:
                return asked.theirs;
            case 6:
                return asked.ratchet.publicKey;
            case 7:
                return asked.isUnanswered() ? 1 : 0;
            case 8:
                return asked.root[0];
            default:
                return NONE;
        }
    }

    public int power(int b, int e) {
        return b < 0 || b == P || e < 0 || e == P ? NONE : raised(b, e);
    }

    public long mix(long x, int a, int b) {
        block[0] = upperHalf(x);
        block[1] = lowerHalf(x);
        for (int i = 2; i < KEY_WORDS; i++) {
            block[i] = i - 1;
        }
        return mixer.wideWord(block, a, b, 0, 0);
    }

    /** The field of an altered envelope may be any long, so users are asked for as longs. */
    private boolean isRegistered(long u) {
        return u >= 0 && u < USERS && accounts[(int) u].registered;
    }

    private boolean areTwoRegistered(long u, long v) {
        return isRegistered(u) && isRegistered(v) && u != v;
    }

    private boolean isEnvelope(int e) {
        return e >= 0 && e < letterCount;
    }

    private boolean isField(int e, int field) {
        return isEnvelope(e) && field >= 0 && field < FIELDS;
    }

    private SessionList listOf(int owner, int other) {
        return lists[owner * USERS + other];
    }

    private boolean isMalformed(long[] letter) {
        if (!areTwoRegistered(letter[SENDER], letter[RECEIVER])) {
            return true;
        }
        if (letter[KIND] != FIRST && letter[KIND] != FURTHER) {
            return true;
        }
        if (!isOrdinaryKey(letter[RATCHET]) || !isNumber(letter[NUMBER]) || !isNumber(letter[PREVIOUS])) {
            return true;
        }
        if (letter[KIND] == FURTHER) {
            return false;
        }
        long identity = accounts[(int) letter[SENDER]].identity.publicKey;
        return letter[IDENTITY] != identity || !isOrdinaryKey(letter[EPHEMERAL]);
    }

    private int openFurther(long[] letter, SessionList list) {
        int answer = NO_SESSION;
        for (int k = 0; k < list.count; k++) {
            trial.become(list.rows[k]);
            int given = tryTrial(letter);
            if (given == OPENED) {
                trial = list.exchange(k, trial);
                list.moveToFront(k);
                return OPENED;
            }
            if (k == 0) {
                answer = given;
            }
        }
        return answer;
    }

    private int openWithSessionAt(long[] letter, SessionList list, int place) {
        trial.become(list.rows[place]);
        int answer = tryTrial(letter);
        if (answer == OPENED) {
            trial = list.exchange(place, trial);
        }
        return answer;
    }

    private int openWithNewSession(long[] letter, SessionList list) {
        Account receiver = accounts[(int) letter[RECEIVER]];
        boolean namesOneTime = letter[ONE_TIME] != 0;
        int place = receiver.placeOfOneTime(letter[ONE_TIME]);
        if (!receiver.hasSigned(letter[SIGNED]) || namesOneTime && place == NONE) {
            return NO_PREKEY;
        }
        int e = (int) letter[EPHEMERAL];
        trial.clear();
        trial.base = e;
        trial.ratchet.become(receiver.signedOf(letter[SIGNED]));
        agreeAsSecond(letter, receiver, namesOneTime ? receiver.oneTime[place].sharedWith(e) : 0);
        int answer = tryTrial(letter);
        if (answer == OPENED) {
            trial = list.putInFront(trial);
            if (namesOneTime) {
                receiver.removeOneTime(place);
            }
        }
        return answer;
    }

    /** The agreement of the one who begins, who has only the directory's word for the other one's keys. */
    private void agreeAsFirst(Pair identity, Entry entry, int oneTime) {
        mixer.blend(trial.root, ZERO, identity.sharedWith(entry.signed), ephemeral.sharedWith(entry.identity),
            ephemeral.sharedWith(entry.signed), oneTime == 0 ? 0 : ephemeral.sharedWith(oneTime));
        mixer.blend(trial.root, trial.root, identity.publicKey, entry.identity, 4, oneTime);
    }

    /** The same agreement reckoned by the other one, whose signed pair the trial has as its ratchet pair. */
    private void agreeAsSecond(long[] letter, Account receiver, int sharedOneTime) {
        int first = (int) letter[IDENTITY];
        int e = (int) letter[EPHEMERAL];
        mixer.blend(trial.root, ZERO, trial.ratchet.sharedWith(first), receiver.identity.sharedWith(e),
            trial.ratchet.sharedWith(e), sharedOneTime);
        mixer.blend(trial.root, trial.root, first, receiver.identity.publicKey, 4, (int) letter[ONE_TIME]);
    }

    /**
     * Tries the trial, which is spoilt when this fails; what it was copied from is not. The new ratchet pair is drawn
     * last, because a try that fails must not use up a draw; nothing before it depends on it.
     */
    private int tryTrial(long[] letter) {
        int theirs = (int) letter[RATCHET];
        int number = (int) letter[NUMBER];
        int kept = trial.skipped.placeOf(theirs, number);
        if (kept != NONE) {
            trial.skipped.takeOut(kept, messageKey);
            return tagOf(letter) == letter[TAG] ? finishOpening(letter) : FALSE;
        }
        boolean turns = theirs != trial.theirs;
        if (turns) {
            if (trial.receives && !trial.skipTo(mixer, (int) letter[PREVIOUS])) {
                return TOO_FAR;
            }
            trial.turnReceiving(mixer, theirs);
        }
        if (!trial.receives) {
            return FALSE;
        }
        if (number < trial.nr) {
            return USED;
        }
        if (!trial.skipTo(mixer, number) || trial.skipped.count > MOST_SKIPPED) {
            return TOO_FAR;
        }
        mixer.take(messageKey, trial.receiving);
        trial.nr = number + 1;
        if (tagOf(letter) != letter[TAG]) {
            return FALSE;
        }
        if (turns) {
            accounts[(int) letter[RECEIVER]].draw(mixer, trial.ratchet);
            trial.step(mixer, trial.sending);
        }
        return finishOpening(letter);
    }

    private int finishOpening(long[] letter) {
        latestText = letter[CIPHER] ^ mixer.wideWord(messageKey, 9, 0, 0, 0);
        trial.answered = true;
        return OPENED;
    }

    /** The tag that is due to an envelope with the present message key; its users and numbers must be sound. */
    private long tagOf(long[] letter) {
        long cipher = letter[CIPHER];
        int sender = accounts[(int) letter[SENDER]].identity.publicKey;
        int receiver = accounts[(int) letter[RECEIVER]].identity.publicKey;
        mixer.blend(block, messageKey, (int) letter[RATCHET], (int) letter[NUMBER], (int) letter[PREVIOUS],
            upperHalf(cipher));
        return mixer.wideWord(block, lowerHalf(cipher), sender, receiver, 10);
    }

    private static boolean isOrdinaryKey(long key) {
        return key >= 2 && key <= P - 2;
    }

    private static boolean isNumber(long number) {
        return number >= 0 && number <= HIGHEST_NUMBER;
    }

    private static int upperHalf(long x) {
        return (int) (x >>> 32);
    }

    private static int lowerHalf(long x) {
        return (int) x;
    }

    private static int raised(int base, int exponent) {
        long result = 1;
        long square = base;
        for (int bit = 0; bit < 31; bit++) {
            if ((exponent >>> bit & 1) == 1) {
                result = result * square % P;
            }
            square = square * square % P;
        }
        return (int) result;
    }

    /** MIX, with rows of its own, so that no mixing makes anything. */
    private static final class Mixer {
        private final int[] start = new int[16];
        private final int[] now = new int[16];
        private final int[] made = new int[KEY_WORDS];

        /** The result may be the key's own row: the key is read before the result is written. */
        void blend(int[] result, int[] key, int a, int b, int c, int d) {
            System.arraycopy(HEAD, 0, start, 0, 4);
            System.arraycopy(key, 0, start, 4, KEY_WORDS);
            start[12] = a;
            start[13] = b;
            start[14] = c;
            start[15] = d;
            System.arraycopy(start, 0, now, 0, 16);
            for (int round = 0; round < 10; round++) {
                turn(0, 4, 8, 12);
                turn(1, 5, 9, 13);
                turn(2, 6, 10, 14);
                turn(3, 7, 11, 15);
                turn(0, 5, 10, 15);
                turn(1, 6, 11, 12);
                turn(2, 7, 8, 13);
                turn(3, 4, 9, 14);
            }
            for (int i = 0; i < KEY_WORDS; i++) {
                result[i] = now[i] + start[i];
            }
        }

        /** Word 0 of a MIX that is needed no further. */
        int firstWord(int[] key, int a, int b, int c, int d) {
            blend(made, key, a, b, c, d);
            return made[0];
        }

        /** The LONG of a MIX that is needed no further. */
        long wideWord(int[] key, int a, int b, int c, int d) {
            blend(made, key, a, b, c, d);
            return (long) made[0] << 32 | made[1] & 0xFFFFFFFFL;
        }

        /** Takes a message key from a chain, which moves on. */
        void take(int[] result, int[] chain) {
            blend(result, chain, 7, 0, 0, 0);
            blend(chain, chain, 8, 0, 0, 0);
        }

        private void turn(int p, int q, int r, int s) {
            int a = now[p];
            int b = now[q];
            int c = now[r];
            int d = now[s];
            a += b;
            d ^= a;
            d = d << 16 | d >>> 16;
            c += d;
            b ^= c;
            b = b << 12 | b >>> 20;
            a += b;
            d ^= a;
            d = d << 8 | d >>> 24;
            c += d;
            b ^= c;
            b = b << 7 | b >>> 25;
            now[p] = a;
            now[q] = b;
            now[r] = c;
            now[s] = d;
        }
    }

    /** A private key and its public key. */
    private static final class Pair {
        int privateKey = 0;
        int publicKey = 0;

        void become(Pair other) {
            privateKey = other.privateKey;
            publicKey = other.publicKey;
        }

        int sharedWith(int otherPublicKey) {
            return raised(otherPublicKey, privateKey);
        }
    }

    /** What the directory says of a user, which need not be true: it can be spoilt. */
    private static final class Entry {
        int identity = 0;
        int signed = 0;
        int nonce = 0;
        int proof = 0;
        final int[] offered = new int[MOST_OFFERED];
        int offeredCount = 0;

        /** Takes the first one-time key away; 0, which is no public key, when there is none. */
        int handOut() {
            if (offeredCount == 0) {
                return 0;
            }
            int key = offered[0];
            offeredCount--;
            System.arraycopy(offered, 1, offered, 0, offeredCount);
            return key;
        }

        void offer(int key) {
            offered[offeredCount] = key;
            offeredCount++;
        }

        boolean holds(Mixer mixer) {
            if (!isGroupKey(identity) || !isGroupKey(signed) || !isGroupKey(nonce) || proof < 0 || proof > P - 2) {
                return false;
            }
            long due = (long) nonce * raised(identity, challenge(mixer)) % P;
            return raised(G, proof) == due;
        }

        /** The number h of a signature, made of the keys that stand here now. */
        int challenge(Mixer mixer) {
            return mixer.firstWord(ZERO, identity, signed, nonce, 3) >>> 1;
        }

        private static boolean isGroupKey(int key) {
            return key >= 1 && key <= P - 1;
        }
    }

    /** A user with the private halves of all keys, and the user's entry in the directory. */
    private static final class Account {
        boolean registered = false;
        int draws = 0;
        final Pair identity = new Pair();
        final Pair signed = new Pair();
        final Pair old = new Pair();
        boolean hasOld = false;
        final Pair[] oneTime = new Pair[MOST_ONE_TIME_PAIRS];
        int oneTimeCount = 0;
        final Entry entry = new Entry();
        private final Pair nonce = new Pair();
        private final int[] seed = new int[KEY_WORDS];

        Account(int number) {
            seed[2] = number;
            for (int i = 0; i < MOST_ONE_TIME_PAIRS; i++) {
                oneTime[i] = new Pair();
            }
        }

        void enter(Mixer mixer, long entropy) {
            registered = true;
            seed[0] = lowerHalf(entropy);
            seed[1] = upperHalf(entropy);
            draw(mixer, identity);
            draw(mixer, signed);
            publishSigned(mixer);
        }

        void draw(Mixer mixer, Pair pair) {
            draws++;
            pair.privateKey = 2 + (mixer.firstWord(seed, draws, 1, 0, 0) >>> 1) % (P - 3);
            pair.publicKey = raised(G, pair.privateKey);
        }

        void renewSigned(Mixer mixer) {
            old.become(signed);
            hasOld = true;
            draw(mixer, signed);
            publishSigned(mixer);
        }

        /** The whole entry is written, so that a spoilt one is sound again. */
        private void publishSigned(Mixer mixer) {
            draw(mixer, nonce);
            entry.identity = identity.publicKey;
            entry.signed = signed.publicKey;
            entry.nonce = nonce.publicKey;
            long h = entry.challenge(mixer);
            entry.proof = (int) ((nonce.privateKey + identity.privateKey * h) % (P - 1));
        }

        int offerOneTime(Mixer mixer, int wanted) {
            int room = Math.min(MOST_OFFERED - entry.offeredCount, MOST_ONE_TIME_PAIRS - oneTimeCount);
            int made = Math.min(wanted, room);
            for (int i = 0; i < made; i++) {
                Pair pair = oneTime[oneTimeCount];
                draw(mixer, pair);
                oneTimeCount++;
                entry.offer(pair.publicKey);
            }
            return made;
        }

        int placeOfOneTime(long key) {
            for (int i = 0; i < oneTimeCount; i++) {
                if (oneTime[i].publicKey == key) {
                    return i;
                }
            }
            return NONE;
        }

        void removeOneTime(int place) {
            Pair removed = oneTime[place];
            oneTimeCount--;
            for (int i = place; i < oneTimeCount; i++) {
                oneTime[i] = oneTime[i + 1];
            }
            oneTime[oneTimeCount] = removed;
        }

        boolean hasSigned(long key) {
            return key == signed.publicKey || hasOld && key == old.publicKey;
        }

        Pair signedOf(long key) {
            return key == signed.publicKey ? signed : old;
        }
    }

    /** Message keys kept for envelopes that were passed over, in the order in which they were kept. */
    private static final class SkippedKeys {
        /** A try may keep keys of two chains before it is asked whether they are too many. */
        private static final int ROOM = MOST_SKIPPED + 2 * FARTHEST;

        int count = 0;
        private final int[] ratchets = new int[ROOM];
        private final int[] numbers = new int[ROOM];
        private final int[] words = new int[ROOM * KEY_WORDS];

        void become(SkippedKeys other) {
            count = other.count;
            System.arraycopy(other.ratchets, 0, ratchets, 0, count);
            System.arraycopy(other.numbers, 0, numbers, 0, count);
            System.arraycopy(other.words, 0, words, 0, count * KEY_WORDS);
        }

        void keep(int ratchet, int number, int[] key) {
            ratchets[count] = ratchet;
            numbers[count] = number;
            System.arraycopy(key, 0, words, count * KEY_WORDS, KEY_WORDS);
            count++;
        }

        int placeOf(int ratchet, int number) {
            for (int i = 0; i < count; i++) {
                if (ratchets[i] == ratchet && numbers[i] == number) {
                    return i;
                }
            }
            return NONE;
        }

        void takeOut(int place, int[] key) {
            System.arraycopy(words, place * KEY_WORDS, key, 0, KEY_WORDS);
            count--;
            int behind = count - place;
            System.arraycopy(ratchets, place + 1, ratchets, place, behind);
            System.arraycopy(numbers, place + 1, numbers, place, behind);
            System.arraycopy(words, (place + 1) * KEY_WORDS, words, place * KEY_WORDS, behind * KEY_WORDS);
        }
    }

    /** One user's side of a conversation. Every session in a list has a sending chain; only a trial may lack it. */
    private static final class Session {
        int base = 0;
        final int[] root = new int[KEY_WORDS];
        final Pair ratchet = new Pair();
        int theirs = 0;
        final int[] sending = new int[KEY_WORDS];
        final int[] receiving = new int[KEY_WORDS];
        boolean receives = false;
        int ns = 0;
        int nr = 0;
        int pn = 0;
        final SkippedKeys skipped = new SkippedKeys();
        boolean begunHere = false;
        boolean answered = false;
        int startSigned = 0;
        int startOneTime = 0;
        private final int[] taken = new int[KEY_WORDS];

        /** The keys may stay as they were: each is written before it is used again. */
        void clear() {
            base = 0;
            theirs = 0;
            receives = false;
            ns = 0;
            nr = 0;
            pn = 0;
            skipped.count = 0;
            begunHere = false;
            answered = false;
            startSigned = 0;
            startOneTime = 0;
        }

        void become(Session other) {
            base = other.base;
            System.arraycopy(other.root, 0, root, 0, KEY_WORDS);
            ratchet.become(other.ratchet);
            theirs = other.theirs;
            System.arraycopy(other.sending, 0, sending, 0, KEY_WORDS);
            System.arraycopy(other.receiving, 0, receiving, 0, KEY_WORDS);
            receives = other.receives;
            ns = other.ns;
            nr = other.nr;
            pn = other.pn;
            skipped.become(other.skipped);
            begunHere = other.begunHere;
            answered = other.answered;
            startSigned = other.startSigned;
            startOneTime = other.startOneTime;
        }

        boolean isUnanswered() {
            return begunHere && !answered;
        }

        /** Steps the session with what its ratchet pair shares with THEIRS; the chain is the new one. */
        void step(Mixer mixer, int[] chain) {
            int d = ratchet.sharedWith(theirs);
            mixer.blend(chain, root, d, 6, 0, 0);
            mixer.blend(root, root, d, 5, 0, 0);
        }

        void turnReceiving(Mixer mixer, int newTheirs) {
            pn = ns;
            ns = 0;
            nr = 0;
            theirs = newTheirs;
            step(mixer, receiving);
            receives = true;
        }

        /** Keeps the keys of the receiving chain below a number; false when that is too far ahead. */
        boolean skipTo(Mixer mixer, int number) {
            if (number - nr > FARTHEST) {
                return false;
            }
            for (; nr < number; nr++) {
                mixer.take(taken, receiving);
                skipped.keep(theirs, nr, taken);
            }
            return true;
        }
    }

    /** One user's sessions for one other user, the active one first. */
    private static final class SessionList {
        final Session[] rows = new Session[MOST_SESSIONS];
        int count = 0;

        /** Answers a session that stands in no list: the one that fell out, or a new one when none did. */
        Session putInFront(Session fresh) {
            Session free = count == MOST_SESSIONS ? rows[MOST_SESSIONS - 1] : new Session();
            count = Math.min(count + 1, MOST_SESSIONS);
            for (int k = count - 1; k > 0; k--) {
                rows[k] = rows[k - 1];
            }
            rows[0] = fresh;
            return free;
        }

        /** Puts a session in the place of another, which it answers. */
        Session exchange(int place, Session fresh) {
            Session former = rows[place];
            rows[place] = fresh;
            return former;
        }

        void moveToFront(int place) {
            Session moved = rows[place];
            for (int k = place; k > 0; k--) {
                rows[k] = rows[k - 1];
            }
            rows[0] = moved;
        }

        int placeOfBase(int base) {
            for (int k = 0; k < count; k++) {
                if (rows[k].base == base) {
                    return k;
                }
            }
            return NONE;
        }
    }
}
