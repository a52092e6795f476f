/**
 * Clerks and a go-between who must agree to post a deal or to tear it up.
 * README.md says how to use it; the numbered promises say what each call answers.
 */
public final class ClerkVotes {
    public static final int NO_SUCH = -1, BAD_VALUE = -2, BAD_TEXT = -3, TOO_MANY = -4, NOT_POSSIBLE = -5, NONE = -6;
    public static final int PATIENCE = 0, DOUBT = 1, AGAIN = 2, ELDERS = 3;
    public static final int BETWEEN = 4;

    private static final int CLERKS = 4, PEOPLE = 5, ALL_CLERKS = 15;
    private static final int MOST_DEALS = 8, MOST_MESSAGES = 60, MOST_TICKS = 100;
    private static final int MOST_ROUNDS = 200, MOST_ROUNDS_AHEAD = 50;
    private static final int PAD_SIZE = 60, MOST_CHARACTERS = 8;
    private static final int MOST_UNDO = 6, SLOTS = 2;

    private static final int SETTINGS = 4;
    private static final int[] LEAST_VALUE = {1, 1, 1, 0};
    private static final int[] MOST_VALUE = {50, 50, 50, 1};

    // What a deal is for a clerk.
    private static final int NEW = 0, READY = 1, POSTED = 2, TORN = 3, STANDINGS = 4;
    // What a deal is for the go-between.
    private static final int ASKING = 0, POST = 1, TEAR = 2, DONE = 3;
    // The kinds of messages.
    private static final int ASK = 0, YES = 1, NO = 2, POSTS = 3, TEARS = 4, GOT = 5, WHAT = 6;
    // The parts of a message.
    private static final int KIND = 0, ABOUT = 1, FROM = 2, TO = 3, PARTS = 4;
    // What may stand next in a text.
    private static final int LETTER = 0, RISING_CLERKS = 1, NUMBER = 2, SOMEBODY = 3, SIGN = 4, ORDER_END = 5;

    private final State now = new State();
    private final State trial = new State();
    // One state more than can be undone: each change notes the state before it ahead of knowing whether it is an error.
    private final State[] history = new State[MOST_UNDO + 1];
    private int nextInHistory;
    private int undoable;
    private final State[] slots = new State[SLOTS];
    private int savedSlots;
    private final char[] pad = new char[PAD_SIZE];
    private int padLength;
    private final OrderReader reader = new OrderReader();

    public ClerkVotes() {
        for (int i = 0; i < history.length; i++) {
            history[i] = new State();
        }
        for (int i = 0; i < slots.length; i++) {
            slots[i] = new State();
        }
    }

    // ---- what happens

    public int set(int setting, int value) {
        noteStateBefore();
        return recorded(now.changeSetting(setting, value));
    }

    public int willing(int clerk, int is) {
        noteStateBefore();
        return recorded(now.makeWilling(clerk, is));
    }

    public int open(int clerks) {
        noteStateBefore();
        return recorded(now.openDeal(clerks));
    }

    public int deliver(int place) {
        noteStateBefore();
        return recorded(now.handOver(place));
    }

    public int lose(int place) {
        noteStateBefore();
        return recorded(now.dropMessage(place));
    }

    public int twice(int place) {
        noteStateBefore();
        return recorded(now.repeatMessage(place));
    }

    public int fall(int who) {
        noteStateBefore();
        return recorded(now.fallIll(who));
    }

    public int rise(int who) {
        noteStateBefore();
        return recorded(now.getWell(who));
    }

    public int ticks(int ticks) {
        noteStateBefore();
        return recorded(now.passTicks(ticks));
    }

    // ---- what there is

    public int ofDeal(int deal, int what) {
        return now.numberOfDeal(deal, what);
    }

    public int at(int deal, int clerk) {
        return now.standingFor(deal, clerk);
    }

    public int message(int place, int what) {
        return now.row.numberOfMessage(place, what);
    }

    public int who(int who, int what) {
        return now.numberOfSomebody(who, what);
    }

    public int count(int what) {
        switch (what) {
            case 5: return padLength;
            case 6: return undoable;
            default: return now.numberOfAll(what);
        }
    }

    // ---- what if; nothing changes

    public int sure(int deal) {
        return now.whatIsSure(deal);
    }

    public int couldAsk(int deal) {
        return now.whoFindsOut(deal);
    }

    public int settledIn(int deal) {
        if (!now.isDeal(deal)) {
            return NO_SUCH;
        }
        trial.copyFrom(now);
        int rounds = trial.roundsUntilSettled(deal);
        return rounds > MOST_ROUNDS ? NONE : rounds;
    }

    public int underwayIn(int rounds) {
        if (rounds < 1 || rounds > MOST_ROUNDS_AHEAD) {
            return BAD_VALUE;
        }
        trial.copyFrom(now);
        for (int i = 0; i < rounds; i++) {
            trial.passRound();
        }
        return trial.row.length;
    }

    public int worstLoss(int deal, int what) {
        if (!now.isDeal(deal)) {
            return NO_SUCH;
        }
        if (what != 0 && what != 1) {
            return BAD_VALUE;
        }
        int worstPlace = NONE;
        int mostRounds = NONE;
        // Nothing is later than not at all: the first place of that kind ends the search.
        for (int place = 0; place < now.row.length && mostRounds <= MOST_ROUNDS; place++) {
            trial.copyFrom(now);
            trial.dropMessage(place);
            int rounds = trial.roundsUntilSettled(deal);
            if (rounds > mostRounds) {
                mostRounds = rounds;
                worstPlace = place;
            }
        }
        return what == 0 ? worstPlace : mostRounds;
    }

    // ---- texts

    public int put(long characters) {
        int more = charactersIn(characters);
        if (more == 0) {
            return BAD_VALUE;
        }
        if (padLength + more > PAD_SIZE) {
            return TOO_MANY;
        }
        padLength += more;
        for (int fromEnd = 0; fromEnd < more; fromEnd++) {
            pad[padLength - 1 - fromEnd] = (char) codeAt(characters, fromEnd);
        }
        return padLength;
    }

    public int wipe() {
        int length = padLength;
        padLength = 0;
        return length;
    }

    public int fault() {
        return faultOfPad();
    }

    public int carryOut() {
        if (faultOfPad() != NONE) {
            return BAD_TEXT;
        }
        noteStateBefore();
        int carriedOut = carryOutOrders();
        padLength = 0;
        return recorded(carriedOut);
    }

    // ---- undo, saving

    public int undo() {
        if (undoable == 0) {
            return NOT_POSSIBLE;
        }
        nextInHistory = nextInHistory == 0 ? MOST_UNDO : nextInHistory - 1;
        now.copyFrom(history[nextInHistory]);
        undoable--;
        return undoable;
    }

    public int save(int slot) {
        if (slot < 0 || slot >= SLOTS) {
            return BAD_VALUE;
        }
        slots[slot].copyFrom(now);
        savedSlots |= 1 << slot;
        return now.tick;
    }

    public int restore(int slot) {
        if (slot < 0 || slot >= SLOTS) {
            return BAD_VALUE;
        }
        if (!isIn(savedSlots, slot)) {
            return NOT_POSSIBLE;
        }
        noteStateBefore();
        now.copyFrom(slots[slot]);
        return recorded(now.tick);
    }

    private void noteStateBefore() {
        history[nextInHistory].copyFrom(now);
    }

    /** Keeps the noted state in the history, unless the answer is an error; passes the answer on. */
    private int recorded(int answer) {
        if (answer >= 0) {
            nextInHistory = nextInHistory == MOST_UNDO ? 0 : nextInHistory + 1;
            undoable = Math.min(undoable + 1, MOST_UNDO);
        }
        return answer;
    }

    private static boolean isIn(int set, int number) {
        return ((set >> number) & 1) == 1;
    }

    private static int codeAt(long characters, int fromEnd) {
        return (int) ((characters >>> (8 * fromEnd)) & 255);
    }

    /** How many characters the number holds; 0 if it is not a number of characters. */
    private static int charactersIn(long characters) {
        for (int i = 0; i < MOST_CHARACTERS; i++) {
            int code = codeAt(characters, i);
            if (code == 0) {
                return (characters >>> (8 * i)) == 0 ? i : 0;
            }
            if (code < 33 || code > 126) {
                return 0;
            }
        }
        return MOST_CHARACTERS;
    }

    private int faultOfPad() {
        reader.begin();
        for (int i = 0; i < padLength; i++) {
            if (!reader.takes(pad[i])) {
                return i;
            }
        }
        return reader.mayEnd() ? NONE : padLength;
    }

    /** Carries the orders of a pad without fault out, up to the first error; returns how many. */
    private int carryOutOrders() {
        int carriedOut = 0;
        reader.begin();
        for (int i = 0; i <= padLength; i++) {
            boolean orderEnds = i == padLength || pad[i] == ';';
            if (orderEnds) {
                if (carryOutOrder() < 0) {
                    return carriedOut;
                }
                carriedOut++;
            }
            if (i < padLength) {
                reader.takes(pad[i]);
            }
        }
        return carriedOut;
    }

    private int carryOutOrder() {
        int value = reader.value;
        switch (reader.letter) {
            case 'o': return now.openDeal(value);
            case 'd': return now.handOver(value);
            case 'l': return now.dropMessage(value);
            case 'x': return now.fallIll(value);
            case 'r': return now.getWell(value);
            case 'w': return now.makeWilling(value, reader.willingness);
            default: return now.passTicks(value);
        }
    }

    /** Reads a text character by character, and holds the order that it reads. */
    private static final class OrderReader {
        int expected;
        int letter;
        // The number (-1 ahead of its first digit), the one who is named, or the set of clerks.
        int value;
        int willingness;

        void begin() {
            expected = LETTER;
        }

        boolean mayEnd() {
            switch (expected) {
                case RISING_CLERKS: return value > 0;
                case NUMBER: return value >= 0;
                default: return expected == ORDER_END;
            }
        }

        /** Takes one more character; false if it cannot stand here. */
        boolean takes(int character) {
            if (character == ';') {
                return takesOrderEnd();
            }
            switch (expected) {
                case LETTER: return takesLetter(character);
                case RISING_CLERKS: return takesRisingClerk(character);
                case NUMBER: return takesDigit(character);
                case SOMEBODY: return takesSomebody(character);
                case SIGN: return takesSign(character);
                default: return false;
            }
        }

        private boolean takesOrderEnd() {
            if (!mayEnd()) {
                return false;
            }
            expected = LETTER;
            return true;
        }

        private boolean takesLetter(int character) {
            switch (character) {
                case 'o':
                    value = 0;
                    expected = RISING_CLERKS;
                    break;
                case 'd': case 'l': case 't':
                    value = -1;
                    expected = NUMBER;
                    break;
                case 'x': case 'r': case 'w':
                    expected = SOMEBODY;
                    break;
                default:
                    return false;
            }
            letter = character;
            return true;
        }

        private boolean takesRisingClerk(int character) {
            int clerk = character - '0';
            // The digits rise if and only if the new clerk's bit is above all bits of the set.
            if (clerk < 0 || clerk >= CLERKS || (1 << clerk) <= value) {
                return false;
            }
            value |= 1 << clerk;
            return true;
        }

        private boolean takesDigit(int character) {
            int digit = character - '0';
            // Behind a first 0 or two digits there is no further one; a second one makes 99 at the most.
            if (digit < 0 || digit > 9 || value == 0 || value > 9) {
                return false;
            }
            value = value < 0 ? digit : value * 10 + digit;
            return true;
        }

        private boolean takesSomebody(int character) {
            int highest = letter == 'w' ? CLERKS - 1 : BETWEEN;
            int who = character - '0';
            if (who < 0 || who > highest) {
                return false;
            }
            value = who;
            expected = letter == 'w' ? SIGN : ORDER_END;
            return true;
        }

        private boolean takesSign(int character) {
            if (character != '+' && character != '-') {
                return false;
            }
            willingness = character == '+' ? 1 : 0;
            expected = ORDER_END;
            return true;
        }
    }

    /** The messages that are on their way, and the tally of all others. */
    private static final class Row {
        int length;
        int lost;
        // A message has PARTS numbers in a row.
        final int[] parts = new int[MOST_MESSAGES * PARTS];
        final int[] deliveredTo = new int[PEOPLE];
        final int[] sentBy = new int[PEOPLE];

        void copyFrom(Row other) {
            length = other.length;
            lost = other.lost;
            System.arraycopy(other.parts, 0, parts, 0, parts.length);
            System.arraycopy(other.deliveredTo, 0, deliveredTo, 0, PEOPLE);
            System.arraycopy(other.sentBy, 0, sentBy, 0, PEOPLE);
        }

        boolean has(int place) {
            return place >= 0 && place < length;
        }

        int part(int place, int part) {
            return parts[place * PARTS + part];
        }

        int numberOfMessage(int place, int what) {
            if (!has(place)) {
                return NO_SUCH;
            }
            if (what < 0 || what >= PARTS) {
                return BAD_VALUE;
            }
            return part(place, what);
        }

        int onTheirWayTo(int who) {
            int number = 0;
            for (int place = 0; place < length; place++) {
                if (part(place, TO) == who) {
                    number++;
                }
            }
            return number;
        }

        int delivered() {
            int number = 0;
            for (int who = 0; who < PEOPLE; who++) {
                number += deliveredTo[who];
            }
            return number;
        }

        void send(int kind, int deal, int from, int to) {
            sentBy[from]++;
            if (length >= MOST_MESSAGES) {
                lost++;
                return;
            }
            int start = length * PARTS;
            parts[start + KIND] = kind;
            parts[start + ABOUT] = deal;
            parts[start + FROM] = from;
            parts[start + TO] = to;
            length++;
        }

        void repeat(int place) {
            System.arraycopy(parts, place * PARTS, parts, length * PARTS, PARTS);
            length++;
        }

        void remove(int place) {
            int next = place + 1;
            System.arraycopy(parts, next * PARTS, parts, place * PARTS, (length - next) * PARTS);
            length--;
        }
    }

    /** Everything except the pad, the slots and the history. */
    private static final class State {
        int tick;
        int illOnes;
        int unwillingOnes;
        int deals;
        final int[] settings = {6, 4, 5, 0};
        final Row row = new Row();
        // Of each deal:
        final int[] clerksOf = new int[MOST_DEALS];
        final int[] forBetween = new int[MOST_DEALS];
        final int[] openedIn = new int[MOST_DEALS];
        final int[] postSince = new int[MOST_DEALS];
        final int[] votes = new int[MOST_DEALS];
        final int[] receipts = new int[MOST_DEALS];
        // Of each deal and standing, the set of clerks for whom the deal is this.
        final int[] standing = new int[MOST_DEALS * STANDINGS];
        // Of each deal and clerk.
        final int[] readySince = new int[MOST_DEALS * CLERKS];

        void copyFrom(State other) {
            tick = other.tick;
            illOnes = other.illOnes;
            unwillingOnes = other.unwillingOnes;
            deals = other.deals;
            System.arraycopy(other.settings, 0, settings, 0, SETTINGS);
            row.copyFrom(other.row);
            System.arraycopy(other.clerksOf, 0, clerksOf, 0, MOST_DEALS);
            System.arraycopy(other.forBetween, 0, forBetween, 0, MOST_DEALS);
            System.arraycopy(other.openedIn, 0, openedIn, 0, MOST_DEALS);
            System.arraycopy(other.postSince, 0, postSince, 0, MOST_DEALS);
            System.arraycopy(other.votes, 0, votes, 0, MOST_DEALS);
            System.arraycopy(other.receipts, 0, receipts, 0, MOST_DEALS);
            System.arraycopy(other.standing, 0, standing, 0, MOST_DEALS * STANDINGS);
            System.arraycopy(other.readySince, 0, readySince, 0, MOST_DEALS * CLERKS);
        }

        boolean isDeal(int deal) {
            return deal >= 0 && deal < deals;
        }

        private static boolean isClerk(int clerk) {
            return clerk >= 0 && clerk < CLERKS;
        }

        private static boolean isSomebody(int who) {
            return who >= 0 && who < PEOPLE;
        }

        private boolean isIll(int who) {
            return isIn(illOnes, who);
        }

        private int whoStand(int deal, int as) {
            return standing[deal * STANDINGS + as];
        }

        private boolean stands(int deal, int clerk, int as) {
            return isIn(whoStand(deal, as), clerk);
        }

        private void move(int deal, int clerk, int from, int to) {
            standing[deal * STANDINGS + from] &= ~(1 << clerk);
            standing[deal * STANDINGS + to] |= 1 << clerk;
        }

        // ---- what happens

        int changeSetting(int setting, int value) {
            if (setting < 0 || setting >= SETTINGS || value < LEAST_VALUE[setting] || value > MOST_VALUE[setting]) {
                return BAD_VALUE;
            }
            int previous = settings[setting];
            settings[setting] = value;
            return previous;
        }

        int makeWilling(int clerk, int is) {
            if (!isClerk(clerk)) {
                return NO_SUCH;
            }
            if (is != 0 && is != 1) {
                return BAD_VALUE;
            }
            int was = isIn(unwillingOnes, clerk) ? 0 : 1;
            if (is == 1) {
                unwillingOnes &= ~(1 << clerk);
            } else {
                unwillingOnes |= 1 << clerk;
            }
            return was;
        }

        int openDeal(int clerks) {
            if (clerks < 1 || clerks > ALL_CLERKS) {
                return BAD_VALUE;
            }
            if (deals >= MOST_DEALS) {
                return TOO_MANY;
            }
            if (isIll(BETWEEN)) {
                return NOT_POSSIBLE;
            }
            int deal = deals;
            deals++;
            // All else about the deal is 0 as yet: ASKING, no votes, no receipts, READY and so on for nobody.
            clerksOf[deal] = clerks;
            openedIn[deal] = tick;
            standing[deal * STANDINGS + NEW] = clerks;
            sendToClerks(ASK, deal, BETWEEN, clerks);
            return deal;
        }

        int dropMessage(int place) {
            if (!row.has(place)) {
                return NO_SUCH;
            }
            row.remove(place);
            row.lost++;
            return row.length;
        }

        int repeatMessage(int place) {
            if (!row.has(place)) {
                return NO_SUCH;
            }
            if (row.length >= MOST_MESSAGES) {
                return TOO_MANY;
            }
            row.repeat(place);
            return row.length;
        }

        int fallIll(int who) {
            if (!isSomebody(who)) {
                return NO_SUCH;
            }
            if (isIll(who)) {
                return NOT_POSSIBLE;
            }
            illOnes |= 1 << who;
            for (int deal = 0; deal < deals; deal++) {
                forget(deal, who);
            }
            return Integer.bitCount(illOnes);
        }

        private void forget(int deal, int who) {
            if (who != BETWEEN) {
                if (stands(deal, who, NEW)) {
                    move(deal, who, NEW, TORN);
                }
            } else if (forBetween[deal] == ASKING) {
                forBetween[deal] = TEAR;
            } else if (forBetween[deal] == POST) {
                receipts[deal] = 0;
            }
        }

        int getWell(int who) {
            if (!isSomebody(who)) {
                return NO_SUCH;
            }
            if (!isIll(who)) {
                return NOT_POSSIBLE;
            }
            illOnes &= ~(1 << who);
            return Integer.bitCount(illOnes);
        }

        // ---- messages

        private void sendToClerks(int kind, int deal, int from, int clerks) {
            for (int clerk = 0; clerk < CLERKS; clerk++) {
                if (isIn(clerks, clerk)) {
                    row.send(kind, deal, from, clerk);
                }
            }
        }

        /** Delivers a message. Its kind tells who gets it; only WHAT is sent both to clerks and to the go-between. */
        int handOver(int place) {
            if (!row.has(place)) {
                return NO_SUCH;
            }
            int kind = row.part(place, KIND);
            int deal = row.part(place, ABOUT);
            int from = row.part(place, FROM);
            int to = row.part(place, TO);
            row.remove(place);
            if (isIll(to)) {
                row.lost++;
                return row.length;
            }
            row.deliveredTo[to]++;
            switch (kind) {
                case ASK: vote(deal, to); break;
                case YES: takeYes(deal, from); break;
                case NO: takeNo(deal, from); break;
                case POSTS: postFor(deal, to); break;
                case TEARS: tearFor(deal, to); break;
                case GOT: takeReceipt(deal, from); break;
                default:
                    if (to == BETWEEN) {
                        answerAsBetween(deal, from);
                    } else {
                        answerAsElder(deal, to, from);
                    }
                    break;
            }
            return row.length;
        }

        private void vote(int deal, int clerk) {
            if (stands(deal, clerk, NEW)) {
                if (isIn(unwillingOnes, clerk)) {
                    move(deal, clerk, NEW, TORN);
                } else {
                    move(deal, clerk, NEW, READY);
                    readySince[deal * CLERKS + clerk] = tick;
                }
            }
            if (stands(deal, clerk, READY)) {
                row.send(YES, deal, clerk, BETWEEN);
            } else if (stands(deal, clerk, TORN)) {
                row.send(NO, deal, clerk, BETWEEN);
            }
        }

        private void postFor(int deal, int clerk) {
            if (stands(deal, clerk, READY)) {
                move(deal, clerk, READY, POSTED);
            }
            if (stands(deal, clerk, POSTED)) {
                row.send(GOT, deal, clerk, BETWEEN);
            }
        }

        private void tearFor(int deal, int clerk) {
            if (stands(deal, clerk, NEW)) {
                move(deal, clerk, NEW, TORN);
            } else if (stands(deal, clerk, READY)) {
                move(deal, clerk, READY, TORN);
            }
        }

        private void answerAsElder(int deal, int elder, int asker) {
            if (stands(deal, elder, NEW)) {
                move(deal, elder, NEW, TORN);
            }
            if (stands(deal, elder, POSTED)) {
                row.send(POSTS, deal, elder, asker);
            } else if (stands(deal, elder, TORN)) {
                row.send(TEARS, deal, elder, asker);
            }
        }

        private void takeYes(int deal, int clerk) {
            if (forBetween[deal] != ASKING) {
                answerAsBetween(deal, clerk);
                return;
            }
            votes[deal] |= 1 << clerk;
            if (votes[deal] == clerksOf[deal]) {
                forBetween[deal] = POST;
                postSince[deal] = tick;
                sendToClerks(POSTS, deal, BETWEEN, clerksOf[deal]);
            }
        }

        private void takeNo(int deal, int clerk) {
            if (forBetween[deal] == ASKING) {
                forBetween[deal] = TEAR;
                sendToClerks(TEARS, deal, BETWEEN, clerksOf[deal] & ~(1 << clerk));
            }
        }

        private void takeReceipt(int deal, int clerk) {
            if (forBetween[deal] != POST) {
                return;
            }
            receipts[deal] |= 1 << clerk;
            if (receipts[deal] == clerksOf[deal]) {
                forBetween[deal] = DONE;
            }
        }

        private void answerAsBetween(int deal, int clerk) {
            if (forBetween[deal] == TEAR) {
                row.send(TEARS, deal, BETWEEN, clerk);
            } else if (forBetween[deal] != ASKING) {
                row.send(POSTS, deal, BETWEEN, clerk);
            }
        }

        // ---- ticks, rounds

        int passTicks(int ticks) {
            if (ticks < 1 || ticks > MOST_TICKS) {
                return BAD_VALUE;
            }
            for (int i = 0; i < ticks; i++) {
                passTick();
            }
            return tick;
        }

        private void passTick() {
            if (!isIll(BETWEEN)) {
                for (int deal = 0; deal < deals; deal++) {
                    pressOn(deal);
                }
            }
            for (int clerk = 0; clerk < CLERKS; clerk++) {
                if (!isIll(clerk)) {
                    askInDoubt(clerk);
                }
            }
            tick++;
        }

        /** What the go-between does about a deal in a tick. */
        private void pressOn(int deal) {
            if (forBetween[deal] == ASKING) {
                if (tick - openedIn[deal] >= settings[PATIENCE]) {
                    forBetween[deal] = TEAR;
                    sendToClerks(TEARS, deal, BETWEEN, clerksOf[deal]);
                }
            } else if (forBetween[deal] == POST && isTimeAgain(postSince[deal], settings[AGAIN])) {
                sendToClerks(POSTS, deal, BETWEEN, clerksOf[deal] & ~receipts[deal]);
            }
        }

        /** What a clerk does in a tick. */
        private void askInDoubt(int clerk) {
            for (int deal = 0; deal < deals; deal++) {
                if (stands(deal, clerk, READY) && isTimeAgain(readySince[deal * CLERKS + clerk], settings[DOUBT])) {
                    row.send(WHAT, deal, clerk, BETWEEN);
                    if (settings[ELDERS] == 1) {
                        sendToClerks(WHAT, deal, clerk, clerksOf[deal] & ~(1 << clerk));
                    }
                }
            }
        }

        private boolean isTimeAgain(int since, int every) {
            int passed = tick - since;
            return every > 0 && passed > 0 && passed % every == 0;
        }

        void passRound() {
            int onTheirWay = row.length;
            // What is sent meanwhile comes behind these, so that they are the first ones all the time.
            for (int i = 0; i < onTheirWay; i++) {
                handOver(0);
            }
            passTick();
        }

        /** Lets rounds pass until a deal is settled; returns how many, one more than the most if it is not. */
        int roundsUntilSettled(int deal) {
            for (int rounds = 0; rounds <= MOST_ROUNDS; rounds++) {
                if (isSettled(deal)) {
                    return rounds;
                }
                passRound();
            }
            return MOST_ROUNDS + 1;
        }

        private boolean isSettled(int deal) {
            return whoStand(deal, NEW) == 0 && whoStand(deal, READY) == 0;
        }

        // ---- what there is

        int numberOfDeal(int deal, int what) {
            if (!isDeal(deal)) {
                return NO_SUCH;
            }
            switch (what) {
                case 0: return clerksOf[deal];
                case 1: return forBetween[deal];
                case 2: return openedIn[deal];
                case 3: return votes[deal];
                case 4: return receipts[deal];
                case 5: return whoStand(deal, NEW);
                case 6: return whoStand(deal, READY);
                case 7: return whoStand(deal, POSTED);
                case 8: return whoStand(deal, TORN);
                default: return BAD_VALUE;
            }
        }

        int standingFor(int deal, int clerk) {
            if (!isDeal(deal) || !isClerk(clerk)) {
                return NO_SUCH;
            }
            for (int as = 0; as < STANDINGS; as++) {
                if (stands(deal, clerk, as)) {
                    return as;
                }
            }
            return NONE;
        }

        int numberOfSomebody(int who, int what) {
            if (!isSomebody(who)) {
                return NO_SUCH;
            }
            switch (what) {
                case 0: return isIll(who) ? 1 : 0;
                case 1: return isIn(unwillingOnes, who) ? 0 : 1;
                case 2: return row.onTheirWayTo(who);
                case 3: return row.deliveredTo[who];
                case 4: return row.sentBy[who];
                default: return BAD_VALUE;
            }
        }

        int numberOfAll(int what) {
            switch (what) {
                case 0: return tick;
                case 1: return deals;
                case 2: return row.length;
                case 3: return row.delivered();
                case 4: return row.lost;
                case 7: return settings[PATIENCE];
                case 8: return settings[DOUBT];
                case 9: return settings[AGAIN];
                case 10: return settings[ELDERS];
                case 11: return dealsWithBoth(POSTED, POSTED);
                case 12: return dealsWithBoth(TORN, TORN);
                case 13: return dealsWithBoth(POSTED, TORN);
                default: return BAD_VALUE;
            }
        }

        /** How many deals are the one for some clerk, and the other for some clerk. */
        private int dealsWithBoth(int one, int other) {
            int number = 0;
            for (int deal = 0; deal < deals; deal++) {
                if (whoStand(deal, one) != 0 && whoStand(deal, other) != 0) {
                    number++;
                }
            }
            return number;
        }

        // ---- who can be sure

        int whatIsSure(int deal) {
            if (!isDeal(deal)) {
                return NO_SUCH;
            }
            if (forBetween[deal] == POST || forBetween[deal] == DONE) {
                return 1;
            }
            return (forBetween[deal] == TEAR || whoStand(deal, TORN) != 0) ? 2 : 0;
        }

        int whoFindsOut(int deal) {
            if (!isDeal(deal)) {
                return NO_SUCH;
            }
            int ready = whoStand(deal, READY);
            int eldersWhoKnow = clerksOf[deal] & ~ready & ~illOnes;
            boolean betweenTells = !isIll(BETWEEN) && forBetween[deal] != ASKING;
            boolean elderTells = settings[ELDERS] == 1 && eldersWhoKnow != 0;
            return (betweenTells || elderTells) ? ready & ~illOnes : 0;
        }
    }
}
