/**
 * An inn that leases keys to guests by messages which may come late, in any order, or never.
 * ../shared/DOC.md says what each call promises.
 */
public final class KeyLeases {
    private static final int GUESTS = 12;
    private static final int ROOMS = 16;
    private static final int MOST_MESSAGES = 60;
    private static final int MOST_SIGNS = 60;
    private static final int MOST_SAVED = 6;
    private static final int SLOTS = 2;
    private static final int FIRST_GHOST = 9;

    private static final int LEAST_LEASE = 8;
    private static final int MOST_LEASE = 200;
    private static final int LEAST_HOLD = 1;
    private static final int MOST_HOLD = 50;
    private static final int LEAST_SHUT = 1;
    private static final int MOST_SHUT = 200;
    private static final int MOST_TICKS = 100;
    // No offer, lease or shutting lasts longer than this.
    private static final int LONGEST_UNTIL_FREE = 200;
    // A message brings at most four more: seeks, offers, wants, yes, refuses.
    private static final int MOST_DELIVERIES = 5 * MOST_MESSAGES;

    private static final int RESTS = 0;
    private static final int SEEKS = 1;
    private static final int WANTS = 2;
    private static final int HAS = 3;

    private static final int FREE = 0;
    private static final int OFFERED = 1;
    private static final int LEASED = 2;
    private static final int SHUT = 3;

    private static final int KIND_SEEKS = 0;
    private static final int KIND_OFFERS = 1;
    private static final int KIND_WANTS = 2;
    private static final int KIND_YES = 3;
    private static final int KIND_NO = 4;
    private static final int KIND_REFUSES = 5;
    private static final int KIND_LEAVES = 6;
    private static final int KINDS = 7;

    // Stands for no guest, no room, no message number, no digit.
    private static final int NONE = -1;

    private static final long FIRST_HASH = 4409L;
    private static final long DOUBLE_BIAS = 1023L;
    private static final int DOUBLE_FRACTION_BITS = 52;
    // A share is a number of rooms divided by 2 to the power of this.
    private static final int SHARE_POWER = 4;

    private final House now;
    // Calls that only try something out do it here.
    private final House trial;
    private final SavedHouses saved;
    private final House[] slots;
    private final boolean[] slotTaken;
    private final CourseText text;

    public KeyLeases() {
        now = new House();
        trial = new House();
        saved = new SavedHouses();
        slots = new House[SLOTS];
        for (int slot = 0; slot < SLOTS; slot++) {
            slots[slot] = new House();
        }
        slotTaken = new boolean[SLOTS];
        text = new CourseText();
    }

    // ---- guests

    public int seek(int guest) throws IndexOutOfBoundsException, IllegalStateException {
        requireGuest(guest);
        require(now.guests.doing[guest] == RESTS);
        saved.push(now);
        now.beginSeeking(guest);
        return now.row.waiting;
    }

    public int leave(int guest) throws IndexOutOfBoundsException, IllegalStateException {
        requireGuest(guest);
        require(now.guests.doing[guest] == HAS);
        saved.push(now);
        int room = now.guests.room[guest];
        now.leaveRoom(guest);
        return room;
    }

    public int giveUp(int guest) throws IndexOutOfBoundsException, IllegalStateException {
        requireGuest(guest);
        int doing = now.guests.doing[guest];
        require(doing == SEEKS || doing == WANTS);
        saved.push(now);
        now.guests.rest(guest);
        return doing;
    }

    public int renew(int guest) throws IndexOutOfBoundsException, IllegalStateException {
        requireGuest(guest);
        require(now.guests.doing[guest] == HAS);
        saved.push(now);
        now.sendWant(guest);
        return now.row.waiting;
    }

    // ---- the inn, ghosts

    public void reserve(int guest, int room) throws IndexOutOfBoundsException, IllegalStateException {
        requireGuest(guest);
        requireRoom(room);
        require(now.inn.reservedGuest[room] == NONE);
        saved.push(now);
        now.inn.dropReservation(guest);
        now.inn.reservedGuest[room] = guest;
    }

    public int unreserve(int guest) throws IndexOutOfBoundsException, IllegalStateException {
        requireGuest(guest);
        require(now.inn.reservedRoom(guest) != NONE);
        saved.push(now);
        return now.inn.dropReservation(guest);
    }

    public boolean turnGhost(int room) throws IndexOutOfBoundsException {
        requireRoom(room);
        saved.push(now);
        now.inn.ghosts ^= 1 << room;
        return now.inn.ghostIn(room);
    }

    public int changeLease(int ticks) throws IllegalArgumentException {
        requireRange(ticks, LEAST_LEASE, MOST_LEASE);
        saved.push(now);
        int before = now.inn.leaseLength;
        now.inn.leaseLength = ticks;
        return before;
    }

    public int changeHold(int ticks) throws IllegalArgumentException {
        requireRange(ticks, LEAST_HOLD, MOST_HOLD);
        saved.push(now);
        int before = now.inn.holdLength;
        now.inn.holdLength = ticks;
        return before;
    }

    public int changeShut(int ticks) throws IllegalArgumentException {
        requireRange(ticks, LEAST_SHUT, MOST_SHUT);
        saved.push(now);
        int before = now.inn.shutLength;
        now.inn.shutLength = ticks;
        return before;
    }

    // ---- messages, ticks

    public int deliver(int place) throws IndexOutOfBoundsException {
        requirePlace(place);
        saved.push(now);
        return now.deliverAt(place);
    }

    public int lose(int place) throws IndexOutOfBoundsException {
        requirePlace(place);
        saved.push(now);
        return now.loseAt(place);
    }

    public int deliverAll() {
        saved.push(now);
        return now.deliverEach();
    }

    public int tick(int ticks) throws IllegalArgumentException {
        requireRange(ticks, 1, MOST_TICKS);
        saved.push(now);
        return now.letTicksGo(ticks);
    }

    // ---- texts

    public int append(int code) throws IllegalArgumentException, IllegalStateException {
        requireRange(code, 33, 126);
        require(text.length < MOST_SIGNS);
        text.add((char) code);
        return text.length;
    }

    public int clearBuffer() {
        int before = text.length;
        text.length = 0;
        return before;
    }

    public int firstError() {
        return text.errorAt();
    }

    public int play() throws IllegalArgumentException, IllegalStateException {
        if (!text.tellsCourse()) {
            throw new IllegalArgumentException("the buffer does not tell a course");
        }
        trial.copyFrom(now);
        require(text.playOn(trial));
        saved.push(now);
        now.copyFrom(trial);
        text.length = 0;
        return now.guests.countHoused();
    }

    // ---- snapshots, undo

    public void keep(int slot) throws IllegalArgumentException {
        requireRange(slot, 0, SLOTS - 1);
        slots[slot].copyFrom(now);
        slotTaken[slot] = true;
    }

    public void goBack(int slot) throws IllegalArgumentException, IllegalStateException {
        requireRange(slot, 0, SLOTS - 1);
        require(slotTaken[slot]);
        saved.push(now);
        now.copyFrom(slots[slot]);
    }

    public void undo() throws IllegalStateException {
        require(saved.count > 0);
        saved.popTo(now);
    }

    public int savedStates() {
        return saved.count;
    }

    // ---- guests as they are; nothing is changed

    public int doingOf(int guest) throws IndexOutOfBoundsException {
        requireGuest(guest);
        return now.guests.doing[guest];
    }

    public int roomOf(int guest) throws IndexOutOfBoundsException, IllegalStateException {
        requireGuest(guest);
        require(now.guests.room[guest] != NONE);
        return now.guests.room[guest];
    }

    public int ticksLeft(int guest) throws IndexOutOfBoundsException, IllegalStateException {
        requireGuest(guest);
        require(now.guests.doing[guest] == HAS);
        return now.guests.ticksUntilEnd(guest, now.clock);
    }

    public int ticksToRenewal(int guest) throws IndexOutOfBoundsException, IllegalStateException {
        requireGuest(guest);
        int ticks = now.guests.ticksUntilAsking(guest, now.clock);
        require(ticks > 0);
        return ticks;
    }

    public boolean isHaunted(int guest) throws IndexOutOfBoundsException {
        requireGuest(guest);
        return now.sleepsByGhost(guest);
    }

    public int staysOf(int guest) throws IndexOutOfBoundsException {
        requireGuest(guest);
        return now.guests.stays[guest];
    }

    public int housed() {
        return now.guests.countHoused();
    }

    // ---- the inn as it is; nothing is changed

    public int stateOf(int room) throws IndexOutOfBoundsException {
        requireRoom(room);
        return now.inn.state[room];
    }

    public int guestOf(int room) throws IndexOutOfBoundsException, IllegalStateException {
        requireRoom(room);
        require(now.inn.guest[room] != NONE);
        return now.inn.guest[room];
    }

    public int ticksOf(int room) throws IndexOutOfBoundsException, IllegalStateException {
        requireRoom(room);
        require(now.inn.state[room] != FREE);
        return now.inn.ticksUntilFree(room, now.clock);
    }

    public int reservedFor(int room) throws IndexOutOfBoundsException, IllegalStateException {
        requireRoom(room);
        require(now.inn.reservedGuest[room] != NONE);
        return now.inn.reservedGuest[room];
    }

    public boolean hasGhost(int room) throws IndexOutOfBoundsException {
        requireRoom(room);
        return now.inn.ghostIn(room);
    }

    public int roomFor(int guest) throws IndexOutOfBoundsException, IllegalStateException {
        requireGuest(guest);
        int room = now.inn.roomToOffer(guest);
        require(room != NONE);
        return room;
    }

    public int leasedByRooms() {
        return now.inn.countRooms(LEASED);
    }

    public int leasedByGuests() {
        return now.inn.countLeasesOfGuests();
    }

    public int freeRooms() {
        return now.inn.countRooms(FREE);
    }

    public int nextFreeByRooms() throws IllegalStateException {
        int ticks = now.inn.leastTicksUntilFree(now.clock);
        require(ticks > 0);
        return ticks;
    }

    public int nextFreeByTicks() throws IllegalStateException {
        int ticks = tryTicksUntilFree();
        require(ticks > 0);
        return ticks;
    }

    public int leaseTicks() {
        return now.inn.leaseLength;
    }

    public int holdTicks() {
        return now.inn.holdLength;
    }

    public int shutTicks() {
        return now.inn.shutLength;
    }

    // ---- messages as they are; nothing is changed

    public int messages() {
        return now.row.waiting;
    }

    public int kindAt(int place) throws IndexOutOfBoundsException {
        requirePlace(place);
        return now.row.kind[place];
    }

    public int guestAt(int place) throws IndexOutOfBoundsException {
        requirePlace(place);
        return now.row.guest[place];
    }

    public int roomAt(int place) throws IndexOutOfBoundsException, IllegalStateException {
        requirePlace(place);
        require(now.row.room[place] != NONE);
        return now.row.room[place];
    }

    // ---- accounts; nothing is changed

    public int time() {
        return now.clock;
    }

    public int sent(int kind) throws IllegalArgumentException {
        requireRange(kind, 0, KINDS - 1);
        return now.sentOfKind[kind];
    }

    public int lost() {
        return now.lostSoFar;
    }

    public int delivered() {
        return now.deliveredSoFar;
    }

    public int leases() {
        return now.leasesSoFar;
    }

    public int evicted() {
        return now.evictedSoFar;
    }

    public int shutSoFar() {
        return now.roomsShut;
    }

    public int wouldDeliver() {
        return tryDeliveringAll();
    }

    public int wouldHouse() {
        tryDeliveringAll();
        return trial.guests.countHoused();
    }

    public double leasedShare() {
        return (double) now.inn.countRooms(LEASED) / ROOMS;
    }

    public long digest() {
        long hash = mixGuests(FIRST_HASH);
        hash = mixRooms(hash);
        hash = mixMessages(hash);
        hash = mixAccounts(hash);
        hash = mix(hash, tryDeliveringAll());
        hash = mix(hash, trial.guests.countHoused());
        hash = mix(hash, saved.count);
        hash = mix(hash, bitsOfShare(now.inn.countRooms(LEASED)));
        return mixSlotsAndText(hash);
    }

    // ---- what the arguments must be

    private static boolean isGuest(int guest) {
        return guest >= 0 && guest < GUESTS;
    }

    private static boolean isRoom(int room) {
        return room >= 0 && room < ROOMS;
    }

    private static void requireGuest(int guest) {
        if (!isGuest(guest)) {
            throw new IndexOutOfBoundsException("there is no such guest");
        }
    }

    private static void requireRoom(int room) {
        if (!isRoom(room)) {
            throw new IndexOutOfBoundsException("there is no such room");
        }
    }

    private void requirePlace(int place) {
        if (!now.row.hasPlace(place)) {
            throw new IndexOutOfBoundsException("there is no such message");
        }
    }

    private static void requireRange(int value, int least, int most) {
        if (value < least || value > most) {
            throw new IllegalArgumentException("a number is out of range");
        }
    }

    private static void require(boolean possible) {
        if (!possible) {
            throw new IllegalStateException("this cannot be done now");
        }
    }

    // ---- what is tried out on a copy

    private int tryDeliveringAll() {
        trial.copyFrom(now);
        return trial.deliverEach();
    }

    // 0 if no room becomes free, as none is offered, leased or shut.
    private int tryTicksUntilFree() {
        trial.inn.copyFrom(now.inn);
        for (int ticks = 1; ticks <= LONGEST_UNTIL_FREE; ticks++) {
            if (trial.inn.freeEnded(now.clock + ticks) > 0) {
                return ticks;
            }
        }
        return 0;
    }

    // ---- the hash

    private static long mix(long hash, long value) {
        return 31 * hash + value;
    }

    private long mixGuests(long before) {
        long hash = before;
        Guests guests = now.guests;
        for (int guest = 0; guest < GUESTS; guest++) {
            hash = mix(hash, guests.doing[guest]);
            hash = mix(hash, guests.room[guest] + 1);
            hash = mix(hash, guests.ticksUntilEnd(guest, now.clock));
            hash = mix(hash, guests.ticksUntilAsking(guest, now.clock));
            hash = mix(hash, now.sleepsByGhost(guest) ? 1 : 0);
            hash = mix(hash, guests.stays[guest]);
            hash = mix(hash, now.inn.roomToOffer(guest) + 1);
        }
        return mix(hash, guests.countHoused());
    }

    private long mixRooms(long before) {
        long hash = before;
        Inn inn = now.inn;
        for (int room = 0; room < ROOMS; room++) {
            hash = mix(hash, inn.state[room]);
            hash = mix(hash, inn.guest[room] + 1);
            hash = mix(hash, inn.ticksUntilFree(room, now.clock));
            hash = mix(hash, inn.reservedGuest[room] + 1);
            hash = mix(hash, inn.ghostIn(room) ? 1 : 0);
        }
        hash = mix(hash, inn.countRooms(LEASED));
        hash = mix(hash, inn.countLeasesOfGuests());
        hash = mix(hash, inn.countRooms(FREE));
        hash = mix(hash, inn.leastTicksUntilFree(now.clock));
        hash = mix(hash, tryTicksUntilFree());
        hash = mix(hash, inn.leaseLength);
        hash = mix(hash, inn.holdLength);
        return mix(hash, inn.shutLength);
    }

    private long mixMessages(long before) {
        Row row = now.row;
        long hash = mix(before, row.waiting);
        for (int place = 0; place < row.waiting && place < MOST_MESSAGES; place++) {
            hash = mix(hash, row.kind[place]);
            hash = mix(hash, row.guest[place]);
            hash = mix(hash, row.room[place] + 1);
        }
        return hash;
    }

    private long mixAccounts(long before) {
        long hash = mix(before, now.clock);
        for (int kind = 0; kind < KINDS; kind++) {
            hash = mix(hash, now.sentOfKind[kind]);
        }
        hash = mix(hash, now.lostSoFar);
        hash = mix(hash, now.deliveredSoFar);
        hash = mix(hash, now.leasesSoFar);
        hash = mix(hash, now.evictedSoFar);
        return mix(hash, now.roomsShut);
    }

    private long mixSlotsAndText(long before) {
        long hash = before;
        for (int slot = 0; slot < SLOTS; slot++) {
            hash = mix(hash, slotTaken[slot] ? 1 : 0);
        }
        hash = mix(hash, text.length);
        for (int place = 0; place < text.length && place < MOST_SIGNS; place++) {
            hash = mix(hash, text.signs[place]);
        }
        return hash;
    }

    // The bits of rooms / 16.0, put together by hand: LANGUAGE.md's library has no Double.
    private static long bitsOfShare(int rooms) {
        for (int power = SHARE_POWER; power >= 0; power--) {
            int highest = 1 << power;
            if (rooms >= highest) {
                long exponent = DOUBLE_BIAS + power - SHARE_POWER;
                long fraction = (long) (rooms - highest) << (DOUBLE_FRACTION_BITS - power);
                return (exponent << DOUBLE_FRACTION_BITS) + fraction;
            }
        }
        return 0L;
    }

    private static void copyNumbers(int[] from, int[] to) {
        System.arraycopy(from, 0, to, 0, Math.min(from.length, to.length));
    }

    /** The messages that wait, the new ones behind. */
    private static final class Row {
        final int[] kind = new int[MOST_MESSAGES];
        final int[] guest = new int[MOST_MESSAGES];
        final int[] room = new int[MOST_MESSAGES];
        final int[] number = new int[MOST_MESSAGES];
        // Told by a yes and a no alone: the number of the message that wants the room.
        final int[] answered = new int[MOST_MESSAGES];
        // Told by a yes alone: the ticks of the lease.
        final int[] ticks = new int[MOST_MESSAGES];
        int waiting;

        void copyFrom(Row other) {
            copyNumbers(other.kind, kind);
            copyNumbers(other.guest, guest);
            copyNumbers(other.room, room);
            copyNumbers(other.number, number);
            copyNumbers(other.answered, answered);
            copyNumbers(other.ticks, ticks);
            waiting = other.waiting;
        }

        boolean hasPlace(int place) {
            return place >= 0 && place < waiting && waiting <= MOST_MESSAGES;
        }

        void remove(int place) {
            if (!hasPlace(place)) {
                return;
            }
            closeGap(kind, place);
            closeGap(guest, place);
            closeGap(room, place);
            closeGap(number, place);
            closeGap(answered, place);
            closeGap(ticks, place);
            waiting--;
        }

        private void closeGap(int[] values, int place) {
            System.arraycopy(values, place + 1, values, place, waiting - place - 1);
        }
    }

    /** The guests, as they know themselves. */
    private static final class Guests {
        final int[] doing = new int[GUESTS];
        // The room that is wanted or had.
        final int[] room = new int[GUESTS];
        // The latest message that wanted a room, and when it was sent.
        final int[] wantNumber = new int[GUESTS];
        final int[] wantTime = new int[GUESTS];
        // Of a room that is had: when its ticks began, and how many they are.
        final int[] began = new int[GUESTS];
        final int[] ticks = new int[GUESTS];
        final int[] stays = new int[GUESTS];

        Guests() {
            for (int guest = 0; guest < GUESTS; guest++) {
                room[guest] = NONE;
                wantNumber[guest] = NONE;
            }
        }

        void copyFrom(Guests other) {
            copyNumbers(other.doing, doing);
            copyNumbers(other.room, room);
            copyNumbers(other.wantNumber, wantNumber);
            copyNumbers(other.wantTime, wantTime);
            copyNumbers(other.began, began);
            copyNumbers(other.ticks, ticks);
            copyNumbers(other.stays, stays);
        }

        void rest(int guest) {
            if (isGuest(guest)) {
                doing[guest] = RESTS;
                room[guest] = NONE;
            }
        }

        // An answer to an older message is void: its ticks would begin at a time no longer known.
        boolean heeds(int guest, int ofRoom, int answered) {
            return isGuest(guest) && answered == wantNumber[guest] && room[guest] == ofRoom
                && (doing[guest] == WANTS || doing[guest] == HAS);
        }

        void take(int guest, int ticksOfLease) {
            if (!isGuest(guest)) {
                return;
            }
            if (doing[guest] == WANTS) {
                stays[guest]++;
            }
            doing[guest] = HAS;
            began[guest] = wantTime[guest];
            ticks[guest] = ticksOfLease;
        }

        // 0 if the guest has no room, or its ticks are over.
        int ticksUntilEnd(int guest, int clock) {
            if (!isGuest(guest) || doing[guest] != HAS) {
                return 0;
            }
            return Math.max(0, began[guest] + ticks[guest] - clock);
        }

        // 0 if the guest has no room, or will not ask any more.
        int ticksUntilAsking(int guest, int clock) {
            if (!isGuest(guest) || doing[guest] != HAS) {
                return 0;
            }
            int over = clock - began[guest];
            int early = earlyAsking(guest);
            return Math.max(0, over < early ? early - over : lateAsking(guest) - over);
        }

        boolean asksAt(int guest, int clock) {
            if (!isGuest(guest) || doing[guest] != HAS) {
                return false;
            }
            int over = clock - began[guest];
            return over == earlyAsking(guest) || over == lateAsking(guest);
        }

        private int earlyAsking(int guest) {
            return ticks[guest] / 2;
        }

        private int lateAsking(int guest) {
            return ticks[guest] * 7 / 8;
        }

        int countHoused() {
            int count = 0;
            for (int guest = 0; guest < GUESTS; guest++) {
                if (doing[guest] == HAS) {
                    count++;
                }
            }
            return count;
        }
    }

    /** The rooms, as the inn knows them. */
    private static final class Inn {
        final int[] state = new int[ROOMS];
        // To whom a room is offered or leased; NONE for one that is free or shut.
        final int[] guest = new int[ROOMS];
        final int[] until = new int[ROOMS];
        final int[] yesNumber = new int[ROOMS];
        final int[] reservedGuest = new int[ROOMS];
        // By guests: the room leased last, and how many rooms are leased now.
        final int[] lastRoom = new int[GUESTS];
        final int[] leasedRooms = new int[GUESTS];
        // One bit for each room.
        int ghosts = 1 << FIRST_GHOST;
        int leaseLength = 60;
        int holdLength = 10;
        int shutLength = 50;

        Inn() {
            for (int room = 0; room < ROOMS; room++) {
                guest[room] = NONE;
                reservedGuest[room] = NONE;
            }
            for (int each = 0; each < GUESTS; each++) {
                lastRoom[each] = NONE;
            }
        }

        void copyFrom(Inn other) {
            copyNumbers(other.state, state);
            copyNumbers(other.guest, guest);
            copyNumbers(other.until, until);
            copyNumbers(other.yesNumber, yesNumber);
            copyNumbers(other.reservedGuest, reservedGuest);
            copyNumbers(other.lastRoom, lastRoom);
            copyNumbers(other.leasedRooms, leasedRooms);
            ghosts = other.ghosts;
            leaseLength = other.leaseLength;
            holdLength = other.holdLength;
            shutLength = other.shutLength;
        }

        boolean ghostIn(int room) {
            return isRoom(room) && (ghosts >> room & 1) == 1;
        }

        int reservedRoom(int ofGuest) {
            for (int room = 0; room < ROOMS; room++) {
                if (reservedGuest[room] == ofGuest) {
                    return room;
                }
            }
            return NONE;
        }

        int dropReservation(int ofGuest) {
            int room = reservedRoom(ofGuest);
            if (isRoom(room)) {
                reservedGuest[room] = NONE;
            }
            return room;
        }

        int roomToOffer(int toGuest) {
            for (int room = 0; room < ROOMS; room++) {
                if (state[room] == OFFERED && guest[room] == toGuest) {
                    return room;
                }
            }
            int reserved = reservedRoom(toGuest);
            if (canBeOffered(reserved, toGuest)) {
                return reserved;
            }
            int last = isGuest(toGuest) ? lastRoom[toGuest] : NONE;
            if (canBeOffered(last, toGuest)) {
                return last;
            }
            for (int room = 0; room < ROOMS; room++) {
                if (canBeOffered(room, toGuest)) {
                    return room;
                }
            }
            return NONE;
        }

        private boolean canBeOffered(int room, int toGuest) {
            return room >= 0 && room < ROOMS && state[room] == FREE
                && (reservedGuest[room] == NONE || reservedGuest[room] == toGuest);
        }

        void offer(int room, int toGuest, int clock) {
            if (isRoom(room)) {
                state[room] = OFFERED;
                guest[room] = toGuest;
                until[room] = clock + holdLength;
            }
        }

        boolean isLeasedTo(int room, int toGuest) {
            return room >= 0 && room < ROOMS && state[room] == LEASED && guest[room] == toGuest;
        }

        boolean isHeldFor(int room, int toGuest) {
            return isRoom(room) && guest[room] == toGuest
                && (state[room] == OFFERED || state[room] == LEASED);
        }

        void lease(int room, int toGuest, int clock, int yes) {
            if (!isRoom(room) || !isGuest(toGuest)) {
                return;
            }
            int end = clock + leaseLength;
            if (isLeasedTo(room, toGuest)) {
                end = Math.max(end, until[room]);
            } else {
                leasedRooms[toGuest]++;
            }
            state[room] = LEASED;
            guest[room] = toGuest;
            until[room] = end;
            yesNumber[room] = yes;
            lastRoom[toGuest] = room;
        }

        // A message that was sent before the latest yes knows nothing of that lease.
        boolean mayEnd(int room, int toGuest, int number) {
            return isLeasedTo(room, toGuest) && yesNumber[room] < number;
        }

        void free(int room) {
            if (isRoom(room)) {
                dropLease(room);
                state[room] = FREE;
                guest[room] = NONE;
                until[room] = 0;
            }
        }

        void shut(int room, int clock) {
            if (isRoom(room)) {
                dropLease(room);
                state[room] = SHUT;
                guest[room] = NONE;
                until[room] = clock + shutLength;
            }
        }

        private void dropLease(int room) {
            int leasedTo = state[room] == LEASED ? guest[room] : NONE;
            if (leasedTo >= 0 && leasedTo < GUESTS) {
                leasedRooms[leasedTo]--;
            }
        }

        int freeEnded(int clock) {
            int freed = 0;
            for (int room = 0; room < ROOMS; room++) {
                if (state[room] != FREE && until[room] <= clock) {
                    free(room);
                    freed++;
                }
            }
            return freed;
        }

        // 0 if the room is free.
        int ticksUntilFree(int room, int clock) {
            return !isRoom(room) || state[room] == FREE ? 0 : until[room] - clock;
        }

        // 0 if all rooms are free.
        int leastTicksUntilFree(int clock) {
            int least = 0;
            for (int room = 0; room < ROOMS; room++) {
                int ticks = ticksUntilFree(room, clock);
                if (ticks > 0 && (least == 0 || ticks < least)) {
                    least = ticks;
                }
            }
            return least;
        }

        int countRooms(int inState) {
            int count = 0;
            for (int room = 0; room < ROOMS; room++) {
                if (state[room] == inState) {
                    count++;
                }
            }
            return count;
        }

        int countLeasesOfGuests() {
            int count = 0;
            for (int each = 0; each < GUESTS; each++) {
                count += leasedRooms[each];
            }
            return count;
        }
    }

    /** Guests, inn, messages and accounts: all that a snapshot or a saved state holds. */
    private static final class House {
        final Guests guests = new Guests();
        final Inn inn = new Inn();
        final Row row = new Row();
        final int[] sentOfKind = new int[KINDS];
        int clock;
        int nextNumber;
        int lostSoFar;
        int deliveredSoFar;
        int leasesSoFar;
        int evictedSoFar;
        int roomsShut;

        void copyFrom(House other) {
            guests.copyFrom(other.guests);
            inn.copyFrom(other.inn);
            row.copyFrom(other.row);
            copyNumbers(other.sentOfKind, sentOfKind);
            clock = other.clock;
            nextNumber = other.nextNumber;
            lostSoFar = other.lostSoFar;
            deliveredSoFar = other.deliveredSoFar;
            leasesSoFar = other.leasesSoFar;
            evictedSoFar = other.evictedSoFar;
            roomsShut = other.roomsShut;
        }

        // Returns the number of the message; one that finds no place has a number too.
        private int send(int kind, int guest, int room, int answered, int ticks) {
            int number = nextNumber;
            nextNumber++;
            if (kind >= 0 && kind < KINDS) {
                sentOfKind[kind]++;
            }
            int place = row.waiting;
            if (place < 0 || place >= MOST_MESSAGES) {
                lostSoFar++;
                return number;
            }
            row.kind[place] = kind;
            row.guest[place] = guest;
            row.room[place] = room;
            row.number[place] = number;
            row.answered[place] = answered;
            row.ticks[place] = ticks;
            row.waiting++;
            return number;
        }

        // ---- what guests do

        void beginSeeking(int guest) {
            if (isGuest(guest)) {
                guests.doing[guest] = SEEKS;
                send(KIND_SEEKS, guest, NONE, NONE, 0);
            }
        }

        void sendWant(int guest) {
            if (isGuest(guest)) {
                guests.wantNumber[guest] = send(KIND_WANTS, guest, guests.room[guest], NONE, 0);
                guests.wantTime[guest] = clock;
            }
        }

        void leaveRoom(int guest) {
            if (isGuest(guest)) {
                send(KIND_LEAVES, guest, guests.room[guest], NONE, 0);
                guests.rest(guest);
            }
        }

        boolean sleepsByGhost(int guest) {
            return isGuest(guest) && guests.doing[guest] == HAS && inn.ghostIn(guests.room[guest]);
        }

        private void hearOffer(int guest, int room) {
            if (isGuest(guest) && guests.doing[guest] == SEEKS) {
                guests.doing[guest] = WANTS;
                guests.room[guest] = room;
                sendWant(guest);
            }
        }

        private void hearYes(int guest, int room, int answered, int ticks) {
            if (!isGuest(guest) || !guests.heeds(guest, room, answered)) {
                return;
            }
            if (guests.wantTime[guest] + ticks <= clock) {
                guests.rest(guest);
            } else if (guests.doing[guest] == WANTS && inn.ghostIn(room)) {
                send(KIND_REFUSES, guest, room, NONE, 0);
                guests.rest(guest);
            } else {
                guests.take(guest, ticks);
            }
        }

        private void hearNo(int guest, int room, int answered) {
            if (guests.heeds(guest, room, answered)) {
                guests.rest(guest);
            }
        }

        // ---- what the inn does

        private void answerSeek(int guest) {
            int room = inn.roomToOffer(guest);
            if (room != NONE) {
                inn.offer(room, guest, clock);
                send(KIND_OFFERS, guest, room, NONE, 0);
            }
        }

        private void answerWant(int guest, int room, int number) {
            if (inn.isHeldFor(room, guest)) {
                int yes = send(KIND_YES, guest, room, number, inn.leaseLength);
                inn.lease(room, guest, clock, yes);
                leasesSoFar++;
            } else {
                send(KIND_NO, guest, room, number, 0);
            }
        }

        private void hearRefusal(int guest, int room, int number) {
            if (inn.mayEnd(room, guest, number)) {
                inn.shut(room, clock);
                roomsShut++;
            }
        }

        private void hearLeaving(int guest, int room, int number) {
            if (inn.mayEnd(room, guest, number)) {
                inn.free(room);
            }
        }

        // ---- messages, ticks

        // Returns the kind of the message; NONE if there is no such message.
        int deliverAt(int place) {
            if (!row.hasPlace(place)) {
                return NONE;
            }
            int kind = row.kind[place];
            int guest = row.guest[place];
            int room = row.room[place];
            int number = row.number[place];
            int answered = row.answered[place];
            int ticks = row.ticks[place];
            // Gone before it is handled, so that its answer always finds a place.
            row.remove(place);
            deliveredSoFar++;
            switch (kind) {
                case KIND_SEEKS:
                    answerSeek(guest);
                    break;
                case KIND_OFFERS:
                    hearOffer(guest, room);
                    break;
                case KIND_WANTS:
                    answerWant(guest, room, number);
                    break;
                case KIND_YES:
                    hearYes(guest, room, answered, ticks);
                    break;
                case KIND_NO:
                    hearNo(guest, room, answered);
                    break;
                case KIND_REFUSES:
                    hearRefusal(guest, room, number);
                    break;
                default:
                    hearLeaving(guest, room, number);
                    break;
            }
            return kind;
        }

        // Returns the kind of the message; NONE if there is no such message.
        int loseAt(int place) {
            if (!row.hasPlace(place)) {
                return NONE;
            }
            int kind = row.kind[place];
            row.remove(place);
            lostSoFar++;
            return kind;
        }

        int deliverEach() {
            int count = 0;
            while (row.waiting > 0 && count < MOST_DELIVERIES) {
                deliverAt(0);
                count++;
            }
            return count;
        }

        int letTicksGo(int ticks) {
            int losing = 0;
            for (int gone = 0; gone < ticks && gone < MOST_TICKS; gone++) {
                clock++;
                inn.freeEnded(clock);
                losing += tickGuests();
            }
            return losing;
        }

        private int tickGuests() {
            int losing = 0;
            for (int guest = 0; guest < GUESTS; guest++) {
                if (guests.doing[guest] == HAS && guests.ticksUntilEnd(guest, clock) == 0) {
                    guests.rest(guest);
                    evictedSoFar++;
                    losing++;
                } else if (guests.asksAt(guest, clock)) {
                    sendWant(guest);
                }
            }
            return losing;
        }

        // ---- parts of a course

        // False if the call that this part stands for would throw; nothing is done then.
        boolean playPart(char letter, int number) {
            if (letter == 't') {
                letTicksGo(number);
                return true;
            }
            if (letter == 'd') {
                return deliverAt(number) != NONE;
            }
            if (letter == 'x') {
                return loseAt(number) != NONE;
            }
            int doingBefore = letter == 's' ? RESTS : HAS;
            if (!isGuest(number) || guests.doing[number] != doingBefore) {
                return false;
            }
            if (letter == 's') {
                beginSeeking(number);
            } else if (letter == 'g') {
                leaveRoom(number);
            } else {
                sendWant(number);
            }
            return true;
        }
    }

    /** The states that can be undone, the latest one last. */
    private static final class SavedHouses {
        final House[] houses = new House[MOST_SAVED];
        int count;

        SavedHouses() {
            for (int place = 0; place < MOST_SAVED; place++) {
                houses[place] = new House();
            }
        }

        void push(House house) {
            if (count >= MOST_SAVED) {
                dropOldest();
            }
            if (count >= 0 && count < MOST_SAVED) {
                houses[count].copyFrom(house);
                count++;
            }
        }

        void popTo(House house) {
            if (count > 0 && count <= MOST_SAVED) {
                count--;
                house.copyFrom(houses[count]);
            }
        }

        // The oldest one goes behind the others, to be written anew.
        private void dropOldest() {
            House oldest = houses[0];
            for (int place = 1; place < MOST_SAVED; place++) {
                houses[place - 1] = houses[place];
            }
            houses[MOST_SAVED - 1] = oldest;
            count = MOST_SAVED - 1;
        }
    }

    /** The buffer, and how it is read as a course: parts of a letter and a number, with ";" between them. */
    private static final class CourseText {
        private static final char NO_LETTER = 0;

        final char[] signs = new char[MOST_SIGNS];
        int length;
        // The part that is being read, as far as it has been read.
        private char letter;
        private int number;

        void add(char sign) {
            if (length >= 0 && length < MOST_SIGNS) {
                signs[length] = sign;
                length++;
            }
        }

        int errorAt() {
            beginPart();
            for (int place = 0; place < length && place < MOST_SIGNS; place++) {
                if (!reads(signs[place])) {
                    return place;
                }
            }
            return length;
        }

        boolean tellsCourse() {
            return errorAt() == length && letter != NO_LETTER && number != NONE;
        }

        // The text must tell a course. False if a part cannot be played; those before it are.
        boolean playOn(House house) {
            beginPart();
            for (int place = 0; place < length && place < MOST_SIGNS; place++) {
                if (signs[place] == ';' && !house.playPart(letter, number)) {
                    return false;
                }
                reads(signs[place]);
            }
            return house.playPart(letter, number);
        }

        private void beginPart() {
            letter = NO_LETTER;
            number = NONE;
        }

        // False if no course goes on with this sign.
        private boolean reads(char sign) {
            if (letter == NO_LETTER) {
                letter = sign;
                return isLetter(sign);
            }
            if (sign == ';') {
                boolean complete = number != NONE;
                beginPart();
                return complete;
            }
            return sign >= '0' && sign <= '9' && readsDigit(sign - '0');
        }

        private boolean readsDigit(int digit) {
            if (number == 0) {
                return false;
            }
            number = number == NONE ? digit : 10 * number + digit;
            return number >= leastNumber() && number <= mostNumber();
        }

        private static boolean isLetter(char sign) {
            return sign == 's' || sign == 'g' || sign == 'r' || sign == 'd' || sign == 'x' || sign == 't';
        }

        private int leastNumber() {
            return letter == 't' ? 1 : 0;
        }

        private int mostNumber() {
            if (letter == 't') {
                return MOST_TICKS;
            }
            return letter == 'd' || letter == 'x' ? MOST_MESSAGES - 1 : GUESTS - 1;
        }
    }
}
