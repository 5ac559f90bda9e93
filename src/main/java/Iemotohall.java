/** A school of an art that goes down by descent; the document's promises say what each call answers. */
public final class Iemotohall {
    private static final int NONE = -1;
    private static final int MOST_PEOPLE = 12;
    private static final int MOST_HOUSES = 4;
    private static final int MOST_SECRETS = 8;
    private static final int MOST_UTENSILS = 12;
    private static final int MOST_GUESTS = 4;
    private static final int MOST_DAYS = 90;
    private static final int TOP_STEP = 9;
    private static final int NAMING_STEP = 5;
    private static final int LINE_STEP = 7;
    private static final int PARTING_STEP = 8;
    private static final int KINDS = 4;
    private static final int SEASONS = 4;
    private static final int TOP_THEME = 9;
    private static final int TOP_RANK = 9;
    private static final int SEASON_DAYS = 30;
    private static final int REMEMBERED_DAYS = 120;

    private static final int FIRST_COINS = 60;
    private static final int FEE_OF_STEP = 5;
    private static final int COPY_PRICE = 10;
    private static final int RANK_PRICE = 4;
    private static final int JOIN_PRICE = 8;
    private static final int GUEST_PRICE = 3;
    private static final int WORTH_OF_GIFT = 5;
    private static final int SEEN_LOSS = 3;
    private static final int THEME_LOSS = 4;
    private static final int QUARREL_LOSS = 6;

    /** A day before any that is still remembered on the first day. */
    private static final int NEVER = -1000;
    /** Less than the worth of any plan. */
    private static final int BELOW_ANY_WORTH = -1000000;
    private static final long DIGEST_START = 58226L;

    private static final int CANNOT_GIVE = -2;
    private static final int LINE_IS_BROKEN = -3;
    private static final int FEE_LACKS = -4;

    private final People people;
    private final Houses houses;
    private final Secrets secrets;
    private final Utensils utensils;
    private final Falling falling;
    private final Planner planner;
    private int day;
    private int stepsGiven;
    private int stepsFallen;
    private int feesLost;
    private int gatherings;

    public Iemotohall() {
        people = new People();
        houses = new Houses();
        secrets = new Secrets();
        utensils = new Utensils();
        falling = new Falling(people);
        planner = new Planner(people, utensils);
    }

    // ---- people and steps

    public int person(int teacher, int kin) throws IndexOutOfBoundsException, IllegalStateException {
        boolean isFirst = people.count == 0;
        if (!isFirst) {
            checkPerson(teacher);
        }
        checkPersonOrNone(kin);
        if (isFirst) {
            return addFounder();
        }
        if (people.count >= MOST_PEOPLE || !people.alive[teacher]) {
            throw new IllegalStateException("no room, or a dead teacher");
        }
        return people.add(teacher, kin, people.house[teacher], 0);
    }

    public int give(int person) throws IndexOutOfBoundsException, IllegalStateException {
        checkPerson(person);
        int teacher = people.teacher[person];
        if (!people.alive[person] || people.step[person] >= TOP_STEP || teacher == NONE) {
            throw new IllegalStateException("no step can be given to this person");
        }
        int step = people.step[person] + 1;
        if (!people.alive[teacher] || !people.holds(teacher, step)) {
            return CANNOT_GIVE;
        }
        if (step >= LINE_STEP && !isUnbroken(teacher)) {
            return LINE_IS_BROKEN;
        }
        int fee = FEE_OF_STEP * step;
        if (people.coins[person] < fee) {
            return FEE_LACKS;
        }
        people.coins[person] -= fee;
        shareFee(teacher, fee);
        people.raise(person, teacher, day);
        stepsGiven++;
        return step;
    }

    public int revoke(int person, int step)
            throws IndexOutOfBoundsException, IllegalArgumentException, IllegalStateException {
        checkPerson(person);
        checkRange(step, 1, TOP_STEP);
        if (!people.holds(person, step) || people.givenBy[person][step] == NONE) {
            throw new IllegalStateException("not held, or given by none");
        }
        int fell = falling.count(person, step);
        falling.apply();
        stepsFallen += fell;
        return fell;
    }

    public int die(int person) throws IndexOutOfBoundsException, IllegalStateException {
        checkPerson(person);
        if (!people.alive[person]) {
            throw new IllegalStateException("dead already");
        }
        secrets.lose(lostWith(person));
        people.alive[person] = false;
        int house = people.house[person];
        if (houses.head[house] == person) {
            succeed(house, person);
        }
        return houses.head[house];
    }

    public int adopt(int person, int teacher, boolean isKin)
            throws IndexOutOfBoundsException, IllegalStateException {
        checkPerson(person);
        checkPerson(teacher);
        if (!people.alive[person] || isHead(person) || !canTeach(teacher, person)) {
            throw new IllegalStateException("this teacher cannot adopt this person");
        }
        int before = people.teacher[person];
        people.teacher[person] = teacher;
        if (isKin) {
            people.kin[person] = teacher;
        }
        return before;
    }

    public int heir(int house, int person) throws IndexOutOfBoundsException, IllegalStateException {
        checkHouse(house);
        checkPersonOrNone(person);
        if (person != NONE && !(people.livesIn(person, house) && houses.head[house] != person)) {
            throw new IllegalStateException("dead, of another house, or its head");
        }
        int before = houses.heir[house];
        houses.heir[house] = person;
        return before;
    }

    public int part(int person) throws IndexOutOfBoundsException, IllegalStateException {
        checkPerson(person);
        if (!people.alive[person] || !people.holds(person, PARTING_STEP) || isHead(person)
                || houses.count >= MOST_HOUSES) {
            throw new IllegalStateException("this person cannot part");
        }
        int house = houses.add(person);
        people.teacher[person] = NONE;
        people.house[person] = house;
        for (int one = 0; one < people.count; one++) {
            if (people.comesDown(one, person)) {
                people.house[one] = house;
            }
        }
        return house;
    }

    public int pass(int days) throws IllegalArgumentException {
        checkRange(days, 1, MOST_DAYS);
        for (int one = 0; one < people.count; one++) {
            if (people.alive[one]) {
                people.coins[one] += days * (1 + 2 * people.countPupils(one));
            }
        }
        day += days;
        return day;
    }

    // ---- secrets

    public int secret(int person, int step, int key)
            throws IndexOutOfBoundsException, IllegalArgumentException, IllegalStateException {
        checkPerson(person);
        if (key != NONE) {
            checkSecret(key);
        }
        checkRange(step, 0, TOP_STEP);
        if (secrets.count >= MOST_SECRETS || !people.alive[person] || !people.holds(person, step)) {
            throw new IllegalStateException("no room, dead, or without the step");
        }
        int number = secrets.add(step, key);
        people.addRead(person, number);
        return number;
    }

    public boolean read(int person, int secret) throws IndexOutOfBoundsException, IllegalStateException {
        checkPerson(person);
        checkSecret(secret);
        if (!people.alive[person] || !people.holds(person, secrets.needs[secret]) || secrets.lost[secret]) {
            throw new IllegalStateException("dead, without the step, or lost");
        }
        people.addRead(person, secret);
        return understands(person, secret);
    }

    public int copy(int person, int secret) throws IndexOutOfBoundsException, IllegalStateException {
        checkPerson(person);
        checkSecret(secret);
        if (!people.alive[person] || !understands(person, secret) || secrets.lost[secret]
                || secrets.copied[secret] || people.coins[person] < COPY_PRICE) {
            throw new IllegalStateException("no copy can be made");
        }
        people.coins[person] -= COPY_PRICE;
        secrets.copied[secret] = true;
        return people.coins[person];
    }

    public int rebuild(int person, int secret) throws IndexOutOfBoundsException, IllegalStateException {
        checkPerson(person);
        checkSecret(secret);
        if (!secrets.lost[secret] || !secrets.copied[secret] || !canRebuild(person, secret)) {
            throw new IllegalStateException("it cannot be rebuilt");
        }
        people.addRead(person, secret);
        secrets.lost[secret] = false;
        secrets.copied[secret] = false;
        return secrets.countLost();
    }

    // ---- utensils and gatherings

    public int utensil(int person, int kind, int season, int theme, int rank)
            throws IndexOutOfBoundsException, IllegalArgumentException, IllegalStateException {
        checkPerson(person);
        checkRange(kind, 0, KINDS - 1);
        checkRange(season, NONE, SEASONS - 1);
        checkRange(theme, 0, TOP_THEME);
        checkRange(rank, 1, TOP_RANK);
        int price = RANK_PRICE * rank;
        if (utensils.count >= MOST_UTENSILS || !people.alive[person] || people.coins[person] < price) {
            throw new IllegalStateException("no room, dead, or coins lack");
        }
        people.coins[person] -= price;
        int number = utensils.add(person, kind, season);
        utensils.theme[number] = theme;
        utensils.rank[number] = rank;
        return number;
    }

    public int lend(int utensil, int person) throws IndexOutOfBoundsException, IllegalStateException {
        checkUtensil(utensil);
        checkPerson(person);
        if (!people.alive[person]) {
            throw new IllegalStateException("dead");
        }
        int before = utensils.owner[utensil];
        utensils.owner[utensil] = person;
        return before;
    }

    public int mend(int utensil, boolean isJoined) throws IndexOutOfBoundsException, IllegalStateException {
        checkUtensil(utensil);
        if (isJoined) {
            join(utensil);
        } else {
            shatter(utensil);
        }
        return utensils.rank[utensil];
    }

    public boolean quarrel(int one, int other, boolean is)
            throws IndexOutOfBoundsException, IllegalArgumentException {
        checkPerson(one);
        checkPerson(other);
        if (one == other) {
            throw new IllegalArgumentException("both are the same");
        }
        boolean did = contains(people.foes[one], other);
        people.setFoe(one, other, is);
        people.setFoe(other, one, is);
        return did;
    }

    public int hold(int host, int guests)
            throws IndexOutOfBoundsException, IllegalArgumentException, IllegalStateException {
        checkPerson(host);
        checkGuests(host, guests);
        int price = GUEST_PRICE * Integer.bitCount(guests);
        if (!allLive(host, guests) || people.coins[host] < price) {
            throw new IllegalStateException("one is dead, or coins lack");
        }
        int worth = planner.findBest(host, guests, day, seasonNow());
        people.coins[host] -= price;
        people.gatherings[host]++;
        gatherings++;
        for (int kind = 0; kind < KINDS; kind++) {
            utensils.show(planner.best[kind], guests, day);
        }
        collectGifts(host, guests, worth);
        return worth;
    }

    // ---- what one asks

    public int ofPerson(int person, int what) throws IndexOutOfBoundsException, IllegalArgumentException {
        checkPerson(person);
        checkRange(what, 0, 11);
        switch (what) {
            case 0: return people.teacher[person];
            case 1: return people.kin[person];
            case 2: return people.step[person];
            case 3: return people.coins[person];
            case 4: return oneIf(people.alive[person]);
            case 5: return people.house[person];
            case 6: return people.nameOf(person);
            case 7: return oneIf(isUnbroken(person));
            case 8: return people.countPupils(person);
            case 9: return people.hasRead[person];
            case 10: return understoodBy(person);
            default: return people.gatherings[person];
        }
    }

    public int giver(int person, int step, boolean isDay)
            throws IndexOutOfBoundsException, IllegalArgumentException {
        checkPerson(person);
        checkRange(step, 1, TOP_STEP);
        if (!people.holds(person, step)) {
            return NONE;
        }
        return isDay ? people.givenOn[person][step] : people.givenBy[person][step];
    }

    public int ofHouse(int house, int what) throws IndexOutOfBoundsException, IllegalArgumentException {
        checkHouse(house);
        checkRange(what, 0, 4);
        switch (what) {
            case 0: return houses.head[house];
            case 1: return houses.heir[house];
            case 2: return Integer.bitCount(people.livingOf(house));
            case 3: return unbrokenOf(house);
            default: return headAfterHead(house);
        }
    }

    public int ofSecret(int secret, int what) throws IndexOutOfBoundsException, IllegalArgumentException {
        checkSecret(secret);
        checkRange(what, 0, 6);
        switch (what) {
            case 0: return secrets.needs[secret];
            case 1: return secrets.key[secret];
            case 2: return oneIf(secrets.lost[secret]);
            case 3: return oneIf(secrets.copied[secret]);
            case 4: return countReaders(secret);
            case 5: return countKnowers(secret);
            default: return countComingReaders(secret);
        }
    }

    public int ofUtensil(int utensil, int what) throws IndexOutOfBoundsException, IllegalArgumentException {
        checkUtensil(utensil);
        checkRange(what, 0, 7);
        switch (what) {
            case 0: return utensils.kind[utensil];
            case 1: return utensils.season[utensil];
            case 2: return utensils.theme[utensil];
            case 3: return utensils.rank[utensil];
            case 4: return utensils.owner[utensil];
            case 5: return oneIf(utensils.broken[utensil]);
            case 6: return utensils.chosen[utensil];
            default: return utensils.seenBy(utensil, day);
        }
    }

    public int many(int what) throws IllegalArgumentException {
        checkRange(what, 0, 13);
        switch (what) {
            case 0: return day;
            case 1: return people.count;
            case 2: return people.countLiving();
            case 3: return houses.count;
            case 4: return secrets.count;
            case 5: return secrets.countLost();
            case 6: return utensils.count;
            case 7: return gatherings;
            case 8: return seasonNow();
            case 9: return people.sumCoins();
            case 10: return stepsGiven;
            case 11: return stepsFallen;
            case 12: return feesLost;
            default: return people.countQuarrels(people.all());
        }
    }

    public double meanStep(int house) throws IndexOutOfBoundsException {
        checkHouse(house);
        int living = 0;
        int steps = 0;
        for (int one = 0; one < people.count; one++) {
            if (people.livesIn(one, house)) {
                living++;
                steps += people.step[one];
            }
        }
        return living == 0 ? 0.0 : (double) steps / (double) living;
    }

    // ---- what would be (nothing is changed)

    public int plan(int host, int guests, int what)
            throws IndexOutOfBoundsException, IllegalArgumentException, IllegalStateException {
        checkPerson(host);
        checkGuests(host, guests);
        checkRange(what, NONE, KINDS - 1);
        if (!allLive(host, guests)) {
            throw new IllegalStateException("one is dead");
        }
        int worth = planner.findBest(host, guests, day, seasonNow());
        return what == NONE ? worth : planner.best[what];
    }

    public int wouldFall(int person, int step)
            throws IndexOutOfBoundsException, IllegalArgumentException, IllegalStateException {
        checkPerson(person);
        checkRange(step, 1, TOP_STEP);
        if (!people.holds(person, step)) {
            throw new IllegalStateException("not held");
        }
        return falling.count(person, step);
    }

    public int wouldLose(int person) throws IndexOutOfBoundsException {
        checkPerson(person);
        return people.alive[person] ? lostWith(person) : 0;
    }

    public long digest() {
        long d = DIGEST_START;
        for (int what = 0; what <= 13; what++) {
            d = mix(d, many(what));
        }
        for (int one = 0; one < people.count; one++) {
            d = mixPerson(d, one);
        }
        for (int house = 0; house < houses.count; house++) {
            for (int what = 0; what <= 4; what++) {
                d = mix(d, ofHouse(house, what));
            }
        }
        for (int one = 0; one < secrets.count; one++) {
            for (int what = 0; what <= 6; what++) {
                d = mix(d, ofSecret(one, what));
            }
        }
        for (int one = 0; one < utensils.count; one++) {
            for (int what = 0; what <= 7; what++) {
                d = mix(d, ofUtensil(one, what));
            }
        }
        return d;
    }

    private long mixPerson(long start, int person) {
        long d = start;
        for (int what = 0; what <= 11; what++) {
            d = mix(d, ofPerson(person, what));
        }
        d = mix(d, wouldLose(person));
        for (int step = 1; step <= people.step[person]; step++) {
            d = mix(d, giver(person, step, false));
            d = mix(d, giver(person, step, true));
            d = mix(d, wouldFall(person, step));
        }
        return d;
    }

    private static long mix(long d, int value) {
        return d * 31L + value;
    }

    // ---- what a call refuses

    private void checkPerson(int person) {
        if (!people.has(person)) {
            throw new IndexOutOfBoundsException("no such person");
        }
    }

    private void checkPersonOrNone(int person) {
        if (person != NONE) {
            checkPerson(person);
        }
    }

    private void checkHouse(int house) {
        if (house < 0 || house >= houses.count) {
            throw new IndexOutOfBoundsException("no such house");
        }
    }

    private void checkSecret(int secret) {
        if (secret < 0 || secret >= secrets.count) {
            throw new IndexOutOfBoundsException("no such secret");
        }
    }

    private void checkUtensil(int utensil) {
        if (utensil < 0 || utensil >= utensils.count) {
            throw new IndexOutOfBoundsException("no such utensil");
        }
    }

    private static void checkRange(int value, int least, int most) {
        if (value < least || value > most) {
            throw new IllegalArgumentException("out of its range");
        }
    }

    private void checkGuests(int host, int guests) {
        int many = Integer.bitCount(guests);
        boolean areOthers = (guests & ~people.all()) == 0 && !contains(guests, host);
        if (many < 1 || many > MOST_GUESTS || !areOthers) {
            throw new IllegalArgumentException("no set of 1 to 4 other people");
        }
    }

    // ---- lines, fees and heads

    private int addFounder() {
        int founder = people.add(NONE, NONE, 0, TOP_STEP);
        houses.add(founder);
        return founder;
    }

    private boolean isHead(int person) {
        return houses.head[people.house[person]] == person;
    }

    private boolean isUnbroken(int person) {
        int one = person;
        for (int up = 0; up < MOST_PEOPLE && one != NONE && people.alive[one]; up++) {
            if (isHead(one)) {
                return true;
            }
            one = people.teacher[one];
        }
        return false;
    }

    private int unbrokenOf(int house) {
        int set = 0;
        for (int one = 0; one < people.count; one++) {
            if (people.livesIn(one, house) && isUnbroken(one)) {
                set |= 1 << one;
            }
        }
        return set;
    }

    private boolean canTeach(int teacher, int person) {
        return teacher != person
                && people.livesIn(teacher, people.house[person])
                && !people.comesDown(teacher, person);
    }

    private void shareFee(int teacher, int fee) {
        int left = fee;
        int one = teacher;
        for (int up = 0; up < MOST_PEOPLE && one != NONE; up++) {
            int above = people.teacher[one];
            int share = above == NONE ? left : (left + 1) / 2;
            if (people.alive[one]) {
                people.coins[one] += share;
                left -= share;
            }
            one = above;
        }
        feesLost += left;
    }

    private void succeed(int house, int dead) {
        int next = headAfter(house, dead);
        houses.head[house] = next;
        houses.heir[house] = NONE;
        if (next == NONE) {
            return;
        }
        people.teacher[next] = NONE;
        for (int one = 0; one < people.count; one++) {
            if (people.livesIn(one, house) && people.teacher[one] == dead) {
                people.teacher[one] = next;
            }
        }
    }

    private int headAfterHead(int house) {
        int head = houses.head[house];
        return head == NONE ? NONE : headAfter(house, head);
    }

    private int headAfter(int house, int dying) {
        int named = houses.heir[house];
        if (named != NONE && named != dying && people.livesIn(named, house)) {
            return named;
        }
        int others = people.livingOf(house) & ~(1 << dying);
        int child = people.highestOf(others & people.childrenOf(dying));
        return child != NONE ? child : people.highestOf(others);
    }

    // ---- who knows which secret

    private boolean understands(int person, int secret) {
        int one = secret;
        for (int down = 0; down < MOST_SECRETS && one != NONE; down++) {
            if (!people.isReader(person, one)) {
                return false;
            }
            one = secrets.key[one];
        }
        return true;
    }

    private int understoodBy(int person) {
        int set = 0;
        for (int one = 0; one < secrets.count; one++) {
            if (understands(person, one)) {
                set |= 1 << one;
            }
        }
        return set;
    }

    private boolean canRebuild(int person, int secret) {
        int key = secrets.key[secret];
        return people.alive[person]
                && people.holds(person, secrets.needs[secret])
                && (key == NONE || understands(person, key));
    }

    private int lostWith(int person) {
        int set = 0;
        for (int one = 0; one < secrets.count; one++) {
            if (!secrets.lost[one] && people.isReader(person, one) && countReaders(one) == 1) {
                set |= 1 << one;
            }
        }
        return set;
    }

    private int countReaders(int secret) {
        int many = 0;
        for (int one = 0; one < people.count; one++) {
            if (people.alive[one] && people.isReader(one, secret)) {
                many++;
            }
        }
        return many;
    }

    private int countKnowers(int secret) {
        int many = 0;
        for (int one = 0; one < people.count; one++) {
            if (people.alive[one] && understands(one, secret)) {
                many++;
            }
        }
        return many;
    }

    private int countComingReaders(int secret) {
        if (secrets.lost[secret]) {
            return 0;
        }
        int many = 0;
        for (int one = 0; one < people.count; one++) {
            if (people.alive[one] && people.holds(one, secrets.needs[secret])
                    && !people.isReader(one, secret)) {
                many++;
            }
        }
        return many;
    }

    // ---- utensils and gatherings

    private int seasonNow() {
        return day / SEASON_DAYS % SEASONS;
    }

    private void shatter(int utensil) {
        if (utensils.broken[utensil]) {
            throw new IllegalStateException("broken already");
        }
        utensils.broken[utensil] = true;
    }

    private void join(int utensil) {
        int owner = utensils.owner[utensil];
        if (!utensils.broken[utensil] || !people.alive[owner] || people.coins[owner] < JOIN_PRICE) {
            throw new IllegalStateException("it cannot be joined");
        }
        people.coins[owner] -= JOIN_PRICE;
        utensils.rank[utensil] = Math.min(utensils.rank[utensil] + 1, TOP_RANK);
        utensils.broken[utensil] = false;
    }

    private boolean allLive(int host, int guests) {
        int party = guests | 1 << host;
        for (int one = 0; one < people.count; one++) {
            if (contains(party, one) && !people.alive[one]) {
                return false;
            }
        }
        return true;
    }

    private void collectGifts(int host, int guests, int worth) {
        int due = Math.max(worth, 0) / WORTH_OF_GIFT;
        for (int one = 0; one < people.count; one++) {
            if (contains(guests, one)) {
                int gift = Math.min(due, people.coins[one]);
                people.coins[one] -= gift;
                people.coins[host] += gift;
            }
        }
    }

    private static boolean contains(int set, int number) {
        return (set >> number & 1) == 1;
    }

    private static int oneIf(boolean is) {
        return is ? 1 : 0;
    }

    /** The rows of all people; a number below count is a person. */
    private static final class People {
        int count;
        final int[] teacher = new int[MOST_PEOPLE];
        final int[] kin = new int[MOST_PEOPLE];
        final int[] step = new int[MOST_PEOPLE];
        final int[] coins = new int[MOST_PEOPLE];
        final int[] house = new int[MOST_PEOPLE];
        final int[] gatherings = new int[MOST_PEOPLE];
        /** Sets: of secrets, and of people. */
        final int[] hasRead = new int[MOST_PEOPLE];
        final int[] foes = new int[MOST_PEOPLE];
        final boolean[] alive = new boolean[MOST_PEOPLE];
        /** By whom and when each step was given; it counts only while the step is held. */
        final int[][] givenBy = new int[MOST_PEOPLE][TOP_STEP + 1];
        final int[][] givenOn = new int[MOST_PEOPLE][TOP_STEP + 1];

        int add(int itsTeacher, int itsKin, int itsHouse, int itsStep) {
            int number = count;
            teacher[number] = itsTeacher;
            kin[number] = itsKin;
            house[number] = itsHouse;
            step[number] = itsStep;
            coins[number] = FIRST_COINS;
            alive[number] = true;
            for (int s = 0; s <= TOP_STEP; s++) {
                givenBy[number][s] = NONE;
                givenOn[number][s] = NONE;
            }
            count++;
            return number;
        }

        boolean has(int person) {
            return person >= 0 && person < count;
        }

        int all() {
            return (1 << count) - 1;
        }

        boolean holds(int person, int itsStep) {
            return step[person] >= itsStep;
        }

        void raise(int person, int by, int day) {
            int next = step[person] + 1;
            step[person] = next;
            givenBy[person][next] = by;
            givenOn[person][next] = day;
        }

        int nameOf(int person) {
            if (!holds(person, NAMING_STEP)) {
                return NONE;
            }
            int by = givenBy[person][NAMING_STEP];
            return by == NONE ? NONE : MOST_PEOPLE * by + person;
        }

        boolean comesDown(int person, int from) {
            int one = teacher[person];
            for (int up = 0; up < MOST_PEOPLE && one != NONE; up++) {
                if (one == from) {
                    return true;
                }
                one = teacher[one];
            }
            return false;
        }

        int countPupils(int person) {
            int many = 0;
            for (int one = 0; one < count; one++) {
                if (alive[one] && teacher[one] == person) {
                    many++;
                }
            }
            return many;
        }

        int countLiving() {
            int many = 0;
            for (int one = 0; one < count; one++) {
                if (alive[one]) {
                    many++;
                }
            }
            return many;
        }

        int sumCoins() {
            int sum = 0;
            for (int one = 0; one < count; one++) {
                sum += coins[one];
            }
            return sum;
        }

        boolean livesIn(int person, int itsHouse) {
            return alive[person] && house[person] == itsHouse;
        }

        int livingOf(int itsHouse) {
            int set = 0;
            for (int one = 0; one < count; one++) {
                if (livesIn(one, itsHouse)) {
                    set |= 1 << one;
                }
            }
            return set;
        }

        int childrenOf(int person) {
            int set = 0;
            for (int one = 0; one < count; one++) {
                if (kin[one] == person) {
                    set |= 1 << one;
                }
            }
            return set;
        }

        /** The smallest number of those of the set with the greatest step. */
        int highestOf(int set) {
            int highest = NONE;
            for (int one = 0; one < count; one++) {
                if (contains(set, one) && (highest == NONE || step[one] > step[highest])) {
                    highest = one;
                }
            }
            return highest;
        }

        void addRead(int person, int secret) {
            hasRead[person] |= 1 << secret;
        }

        boolean isReader(int person, int secret) {
            return contains(hasRead[person], secret);
        }

        void setFoe(int person, int other, boolean is) {
            int bit = 1 << other;
            foes[person] = is ? foes[person] | bit : foes[person] & ~bit;
        }

        int countQuarrels(int set) {
            int ends = 0;
            for (int one = 0; one < count; one++) {
                if (contains(set, one)) {
                    ends += Integer.bitCount(foes[one] & set);
                }
            }
            return ends / 2;
        }
    }

    /** The rows of all houses. */
    private static final class Houses {
        int count;
        final int[] head = new int[MOST_HOUSES];
        final int[] heir = new int[MOST_HOUSES];

        int add(int itsHead) {
            int number = count;
            head[number] = itsHead;
            heir[number] = NONE;
            count++;
            return number;
        }
    }

    /** The rows of all secrets. */
    private static final class Secrets {
        int count;
        final int[] needs = new int[MOST_SECRETS];
        final int[] key = new int[MOST_SECRETS];
        final boolean[] lost = new boolean[MOST_SECRETS];
        final boolean[] copied = new boolean[MOST_SECRETS];

        int add(int step, int itsKey) {
            int number = count;
            needs[number] = step;
            key[number] = itsKey;
            count++;
            return number;
        }

        void lose(int set) {
            for (int one = 0; one < count; one++) {
                if (contains(set, one)) {
                    lost[one] = true;
                }
            }
        }

        int countLost() {
            int many = 0;
            for (int one = 0; one < count; one++) {
                if (lost[one]) {
                    many++;
                }
            }
            return many;
        }
    }

    /** The rows of all utensils. */
    private static final class Utensils {
        int count;
        final int[] kind = new int[MOST_UTENSILS];
        final int[] season = new int[MOST_UTENSILS];
        final int[] theme = new int[MOST_UTENSILS];
        final int[] rank = new int[MOST_UTENSILS];
        final int[] owner = new int[MOST_UTENSILS];
        final int[] chosen = new int[MOST_UTENSILS];
        final boolean[] broken = new boolean[MOST_UTENSILS];
        /** The last day on which each person saw each utensil. */
        final int[][] seenOn = new int[MOST_UTENSILS][MOST_PEOPLE];

        int add(int itsOwner, int itsKind, int itsSeason) {
            int number = count;
            owner[number] = itsOwner;
            kind[number] = itsKind;
            season[number] = itsSeason;
            for (int one = 0; one < MOST_PEOPLE; one++) {
                seenOn[number][one] = NEVER;
            }
            count++;
            return number;
        }

        int seenBy(int utensil, int day) {
            int set = 0;
            for (int one = 0; one < MOST_PEOPLE; one++) {
                if (seenOn[utensil][one] >= day - REMEMBERED_DAYS) {
                    set |= 1 << one;
                }
            }
            return set;
        }

        void show(int utensil, int guests, int day) {
            if (utensil == NONE) {
                return;
            }
            chosen[utensil]++;
            for (int one = 0; one < MOST_PEOPLE; one++) {
                if (contains(guests, one)) {
                    seenOn[utensil][one] = day;
                }
            }
        }
    }

    /** Finds what falls with a step; nothing of the people changes before apply. */
    private static final class Falling {
        private final People people;
        private final int[] kept = new int[MOST_PEOPLE];

        Falling(People people) {
            this.people = people;
        }

        int count(int person, int step) {
            for (int one = 0; one < people.count; one++) {
                kept[one] = people.step[one];
            }
            return drop(person, step, 0);
        }

        void apply() {
            for (int one = 0; one < people.count; one++) {
                people.step[one] = kept[one];
            }
        }

        /** Nobody is met twice on one way down, as who is met holds none of those steps any more. */
        private int drop(int person, int step, int depth) {
            if (depth >= MOST_PEOPLE) {
                return 0;
            }
            int top = kept[person];
            int fell = top - step + 1;
            kept[person] = step - 1;
            for (int s = step; s <= top; s++) {
                for (int one = 0; one < people.count; one++) {
                    if (kept[one] >= s && people.givenBy[one][s] == person) {
                        fell += drop(one, s, depth + 1);
                    }
                }
            }
            return fell;
        }
    }

    /** Finds the plan of the greatest worth for a gathering. */
    private static final class Planner {
        final int[] best = new int[KINDS];
        private final People people;
        private final Utensils utensils;
        private final int[] picked = new int[KINDS];
        /** What each utensil adds by itself, before these guests. */
        private final int[] value = new int[MOST_UTENSILS];
        private final boolean[] isOffered = new boolean[MOST_UTENSILS];
        private int bestWorth;

        Planner(People people, Utensils utensils) {
            this.people = people;
            this.utensils = utensils;
        }

        int findBest(int host, int guests, int day, int season) {
            for (int one = 0; one < utensils.count; one++) {
                int bored = Integer.bitCount(utensils.seenBy(one, day) & guests);
                value[one] = utensils.rank[one] - SEEN_LOSS * bored;
                isOffered[one] = canBeChosen(one, host, season);
            }
            bestWorth = BELOW_ANY_WORTH;
            choose(0, -QUARREL_LOSS * people.countQuarrels(guests | 1 << host));
            return bestWorth;
        }

        private boolean canBeChosen(int utensil, int host, int season) {
            int itsSeason = utensils.season[utensil];
            return utensils.owner[utensil] == host && !utensils.broken[utensil]
                    && (itsSeason == NONE || itsSeason == season);
        }

        /** Goes by rising numbers with none as the last, so that the first of equal plans is the due one. */
        private void choose(int kind, int worth) {
            if (kind >= KINDS) {
                keepIfBetter(worth);
                return;
            }
            for (int one = 0; one < utensils.count; one++) {
                if (isOffered[one] && utensils.kind[one] == kind) {
                    int loss = THEME_LOSS * countSameTheme(utensils.theme[one], kind);
                    picked[kind] = one;
                    choose(kind + 1, worth + value[one] - loss);
                }
            }
            picked[kind] = NONE;
            choose(kind + 1, worth);
        }

        private int countSameTheme(int theme, int kindsBefore) {
            int many = 0;
            for (int kind = 0; kind < kindsBefore; kind++) {
                if (picked[kind] != NONE && utensils.theme[picked[kind]] == theme) {
                    many++;
                }
            }
            return many;
        }

        private void keepIfBetter(int worth) {
            if (worth > bestWorth) {
                bestWorth = worth;
                for (int kind = 0; kind < KINDS; kind++) {
                    best[kind] = picked[kind];
                }
            }
        }
    }
}
