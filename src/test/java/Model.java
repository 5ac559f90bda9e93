import java.util.ArrayList;
import java.util.HashMap;
import java.util.HashSet;
import java.util.List;
import java.util.Map;
import java.util.Set;

/**
 * The document once more, in another form and without regard for speed: objects that refer to one
 * another, so that a slip of the program's rows or loops does not stand here, too.
 */
final class Model {
    static final class Gift {
        Human by;
        int on;
    }

    static final class Human {
        int number;
        Human teacher;
        Human kin;
        int coins = 60;
        boolean alive = true;
        House house;
        List<Gift> steps = new ArrayList<>();
        Set<Scroll> read = new HashSet<>();
        int held;
    }

    static final class House {
        int number;
        Human head;
        Human heir;
    }

    static final class Scroll {
        int number;
        int needs;
        Scroll key;
        boolean copy;
        boolean lost;
    }

    static final class Tool {
        int number;
        int kind;
        int season;
        int theme;
        int rank;
        Human owner;
        boolean broken;
        int chosen;
        Map<Human, Integer> seen = new HashMap<>();
    }

    final List<Human> humans = new ArrayList<>();
    final List<House> houses = new ArrayList<>();
    final List<Scroll> scrolls = new ArrayList<>();
    final List<Tool> tools = new ArrayList<>();
    final Set<Set<Human>> quarrels = new HashSet<>();
    int day;
    int given;
    int fallen;
    int lostFees;
    int held;

    // ---- people and steps

    int person(int teacher, int kin) {
        Human t = humans.isEmpty() ? null : human(teacher);
        Human k = kin == -1 ? null : human(kin);
        if (t != null) {
            need(humans.size() < 12 && t.alive);
        }
        Human h = new Human();
        h.number = humans.size();
        h.teacher = t;
        h.kin = k;
        humans.add(h);
        if (t != null) {
            h.house = t.house;
            return h.number;
        }
        for (int s = 1; s <= 9; s++) {
            h.steps.add(new Gift());
        }
        found(h);
        return h.number;
    }

    private House found(Human head) {
        House house = new House();
        house.number = houses.size();
        house.head = head;
        head.house = house;
        houses.add(house);
        return house;
    }

    int give(int person) {
        Human h = human(person);
        need(h.alive && step(h) < 9 && h.teacher != null);
        int s = step(h) + 1;
        if (!h.teacher.alive || step(h.teacher) < s) {
            return -2;
        }
        if (s >= 7 && !unbroken(h.teacher)) {
            return -3;
        }
        if (h.coins < 5 * s) {
            return -4;
        }
        h.coins -= 5 * s;
        goUp(h.teacher, 5 * s);
        Gift g = new Gift();
        g.by = h.teacher;
        g.on = day;
        h.steps.add(g);
        given++;
        return s;
    }

    private void goUp(Human h, int left) {
        if (h.teacher == null && h.alive) {
            h.coins += left;
        } else if (h.teacher == null) {
            lostFees += left;
        } else if (h.alive) {
            h.coins += left - left / 2;
            goUp(h.teacher, left / 2);
        } else {
            goUp(h.teacher, left);
        }
    }

    int revoke(int person, int s) {
        Human h = human(person);
        range(s, 1, 9);
        need(step(h) >= s && h.steps.get(s - 1).by != null);
        Set<Gift> falls = falls(h, s);
        for (Human one : humans) {
            one.steps.removeAll(falls);
        }
        fallen += falls.size();
        return falls.size();
    }

    /** Grows the set of what falls until nothing more falls. */
    private Set<Gift> falls(Human h, int s) {
        Set<Gift> falls = new HashSet<>();
        falls.add(h.steps.get(s - 1));
        for (boolean grew = true; grew;) {
            int before = falls.size();
            for (Human one : humans) {
                for (int i = 0; i < step(one); i++) {
                    Gift g = one.steps.get(i);
                    boolean below = i > 0 && falls.contains(one.steps.get(i - 1));
                    boolean above = g.by != null && step(g.by) > i && falls.contains(g.by.steps.get(i));
                    if (below || above) {
                        falls.add(g);
                    }
                }
            }
            grew = falls.size() > before;
        }
        return falls;
    }

    int die(int person) {
        Human h = human(person);
        need(h.alive);
        for (Scroll s : lostWith(h)) {
            s.lost = true;
        }
        if (h.house.head == h) {
            Human next = next(h.house);
            h.alive = false;
            h.house.head = next;
            h.house.heir = null;
            for (Human one : humans) {
                if (next != null && one.alive && one.house == h.house && one.teacher == h) {
                    one.teacher = next;
                }
            }
            if (next != null) {
                next.teacher = null;
            }
        }
        h.alive = false;
        return number(h.house.head);
    }

    private Human next(House house) {
        Human dead = house.head;
        if (dead == null) {
            return null;
        }
        Human heir = house.heir;
        if (heir != null && heir.alive && heir.house == house) {
            return heir;
        }
        Human best = null;
        for (Human one : humans) {
            if (one.alive && one.house == house && one != dead && (best == null || rank(one, dead) > rank(best, dead))) {
                best = one;
            }
        }
        return best;
    }

    private int rank(Human one, Human dead) {
        return (one.kin == dead ? 100 : 0) + step(one);
    }

    int adopt(int person, int teacher, boolean isKin) {
        Human h = human(person);
        Human t = human(teacher);
        need(h.alive && h.house.head != h && t.alive && t.house == h.house && t != h && !above(t).contains(h));
        int before = number(h.teacher);
        h.teacher = t;
        if (isKin) {
            h.kin = t;
        }
        return before;
    }

    private List<Human> above(Human h) {
        List<Human> all = new ArrayList<>();
        for (Human one = h.teacher; one != null; one = one.teacher) {
            all.add(one);
        }
        return all;
    }

    int heir(int house, int person) {
        House of = at(houses, house);
        Human h = person == -1 ? null : human(person);
        need(h == null || h.alive && h.house == of && of.head != h);
        int before = number(of.heir);
        of.heir = h;
        return before;
    }

    int part(int person) {
        Human h = human(person);
        need(h.alive && step(h) >= 8 && h.house.head != h && houses.size() < 4);
        House house = found(h);
        for (Human one : humans) {
            if (above(one).contains(h)) {
                one.house = house;
            }
        }
        h.teacher = null;
        return house.number;
    }

    int pass(int days) {
        range(days, 1, 90);
        for (int i = 0; i < days; i++) {
            for (Human h : humans) {
                h.coins += h.alive ? 1 + 2 * pupils(h) : 0;
            }
            day++;
        }
        return day;
    }

    // ---- secrets

    int secret(int person, int step, int key) {
        Human h = human(person);
        Scroll k = key == -1 ? null : at(scrolls, key);
        range(step, 0, 9);
        need(scrolls.size() < 8 && h.alive && step(h) >= step);
        Scroll s = new Scroll();
        s.number = scrolls.size();
        s.needs = step;
        s.key = k;
        scrolls.add(s);
        h.read.add(s);
        return s.number;
    }

    boolean read(int person, int secret) {
        Human h = human(person);
        Scroll s = at(scrolls, secret);
        need(h.alive && step(h) >= s.needs && !s.lost);
        h.read.add(s);
        return understands(h, s);
    }

    int copy(int person, int secret) {
        Human h = human(person);
        Scroll s = at(scrolls, secret);
        need(h.alive && understands(h, s) && !s.lost && !s.copy && h.coins >= 10);
        s.copy = true;
        h.coins -= 10;
        return h.coins;
    }

    int rebuild(int person, int secret) {
        Human h = human(person);
        Scroll s = at(scrolls, secret);
        need(s.lost && s.copy && h.alive && step(h) >= s.needs && (s.key == null || understands(h, s.key)));
        h.read.add(s);
        s.lost = false;
        s.copy = false;
        return (int) scrolls.stream().filter(o -> o.lost).count();
    }

    private boolean understands(Human h, Scroll s) {
        return h.read.contains(s) && (s.key == null || understands(h, s.key));
    }

    private List<Scroll> lostWith(Human h) {
        List<Scroll> all = new ArrayList<>();
        for (Scroll s : scrolls) {
            if (!s.lost && readers(s).size() == 1 && readers(s).contains(h)) {
                all.add(s);
            }
        }
        return all;
    }

    private List<Human> readers(Scroll s) {
        return humans.stream().filter(h -> h.alive && h.read.contains(s)).toList();
    }

    // ---- utensils and gatherings

    int utensil(int person, int kind, int season, int theme, int rank) {
        Human h = human(person);
        range(kind, 0, 3);
        range(season, -1, 3);
        range(theme, 0, 9);
        range(rank, 1, 9);
        need(tools.size() < 12 && h.alive && h.coins >= 4 * rank);
        h.coins -= 4 * rank;
        Tool t = new Tool();
        t.number = tools.size();
        t.kind = kind;
        t.season = season;
        t.theme = theme;
        t.rank = rank;
        t.owner = h;
        tools.add(t);
        return t.number;
    }

    int lend(int utensil, int person) {
        Tool t = at(tools, utensil);
        Human h = human(person);
        need(h.alive);
        int before = t.owner.number;
        t.owner = h;
        return before;
    }

    int mend(int utensil, boolean isJoined) {
        Tool t = at(tools, utensil);
        if (isJoined) {
            need(t.broken && t.owner.alive && t.owner.coins >= 8);
            t.owner.coins -= 8;
            t.rank += t.rank < 9 ? 1 : 0;
        } else {
            need(!t.broken);
        }
        t.broken = !isJoined;
        return t.rank;
    }

    boolean quarrel(int one, int other, boolean is) {
        Set<Human> pair = new HashSet<>(List.of(human(one)));
        pair.add(human(other));
        if (pair.size() < 2) {
            throw new IllegalArgumentException();
        }
        return is ? !quarrels.add(pair) : quarrels.remove(pair);
    }

    int hold(int host, int guests) {
        Human h = human(host);
        Set<Human> of = guests(h, guests);
        need(h.alive && of.stream().allMatch(g -> g.alive) && h.coins >= 3 * of.size());
        Tool[] best = best(h, of);
        int worth = worth(best, h, of);
        h.coins -= 3 * of.size();
        for (Tool t : best) {
            if (t != null) {
                t.chosen++;
                of.forEach(g -> t.seen.put(g, day));
            }
        }
        for (Human g : of) {
            int gift = worth < 5 ? 0 : Math.min(worth / 5, g.coins);
            g.coins -= gift;
            h.coins += gift;
        }
        h.held++;
        held++;
        return worth;
    }

    int plan(int host, int guests, int what) {
        Human h = human(host);
        Set<Human> of = guests(h, guests);
        range(what, -1, 3);
        need(h.alive && of.stream().allMatch(g -> g.alive));
        Tool[] best = best(h, of);
        return what == -1 ? worth(best, h, of) : best[what] == null ? -1 : best[what].number;
    }

    private Set<Human> guests(Human host, int guests) {
        Set<Human> of = new HashSet<>();
        for (int bit = 0; bit < 32; bit++) {
            if ((guests & 1 << bit) != 0) {
                if (bit >= humans.size() || bit == host.number) {
                    throw new IllegalArgumentException();
                }
                of.add(humans.get(bit));
            }
        }
        range(of.size(), 1, 4);
        return of;
    }

    private List<Tool> choices(Human host, int kind) {
        List<Tool> all = new ArrayList<>();
        for (Tool t : tools) {
            if (t.kind == kind && t.owner == host && !t.broken && (t.season == -1 || t.season == season())) {
                all.add(t);
            }
        }
        all.add(null);
        return all;
    }

    /** Goes from the last plan to the first, and takes each that is as good. */
    private Tool[] best(Human host, Set<Human> guests) {
        List<List<Tool>> of = new ArrayList<>();
        int plans = 1;
        for (int kind = 0; kind < 4; kind++) {
            of.add(choices(host, kind));
            plans *= of.get(kind).size();
        }
        Tool[] best = new Tool[4];
        for (int i = plans - 1; i >= 0; i--) {
            Tool[] tried = new Tool[4];
            int left = i;
            for (int kind = 3; kind >= 0; kind--) {
                tried[kind] = of.get(kind).get(left % of.get(kind).size());
                left /= of.get(kind).size();
            }
            if (worth(tried, host, guests) >= worth(best, host, guests)) {
                best = tried;
            }
        }
        return best;
    }

    private int worth(Tool[] plan, Human host, Set<Human> guests) {
        int worth = 0;
        for (int i = 0; i < 4; i++) {
            Tool t = plan[i];
            if (t != null) {
                worth += t.rank - 3 * (int) guests.stream().filter(g -> sees(g, t)).count();
                for (int j = 0; j < i; j++) {
                    worth -= plan[j] != null && plan[j].theme == t.theme ? 4 : 0;
                }
            }
        }
        Set<Human> all = new HashSet<>(guests);
        all.add(host);
        return worth - 6 * (int) quarrels.stream().filter(all::containsAll).count();
    }

    private boolean sees(Human h, Tool t) {
        return t.seen.containsKey(h) && t.seen.get(h) >= day - 120;
    }

    private int season() {
        return day / 30 % 4;
    }

    // ---- what one asks

    int ofPerson(int person, int what) {
        Human h = human(person);
        range(what, 0, 11);
        int[] all = {
            number(h.teacher), number(h.kin), step(h), h.coins, h.alive ? 1 : 0, h.house.number, name(h),
            unbroken(h) ? 1 : 0, pupils(h),
            scrolls.stream().filter(h.read::contains).mapToInt(s -> 1 << s.number).sum(),
            scrolls.stream().filter(s -> understands(h, s)).mapToInt(s -> 1 << s.number).sum(), h.held};
        return all[what];
    }

    int giver(int person, int s, boolean isDay) {
        Human h = human(person);
        range(s, 1, 9);
        if (step(h) < s || h.steps.get(s - 1).by == null) {
            return -1;
        }
        return isDay ? h.steps.get(s - 1).on : h.steps.get(s - 1).by.number;
    }

    int ofHouse(int house, int what) {
        House of = at(houses, house);
        range(what, 0, 4);
        List<Human> living = living(of);
        int[] all = {
            number(of.head), number(of.heir), living.size(),
            living.stream().filter(this::unbroken).mapToInt(h -> 1 << h.number).sum(), number(next(of))};
        return all[what];
    }

    int ofSecret(int secret, int what) {
        Scroll s = at(scrolls, secret);
        range(what, 0, 6);
        int[] all = {
            s.needs, s.key == null ? -1 : s.key.number, s.lost ? 1 : 0, s.copy ? 1 : 0, readers(s).size(),
            (int) readers(s).stream().filter(h -> understands(h, s)).count(),
            s.lost ? 0 : (int) humans.stream()
                .filter(h -> h.alive && step(h) >= s.needs && !h.read.contains(s)).count()};
        return all[what];
    }

    int ofUtensil(int utensil, int what) {
        Tool t = at(tools, utensil);
        range(what, 0, 7);
        int[] all = {
            t.kind, t.season, t.theme, t.rank, t.owner.number, t.broken ? 1 : 0, t.chosen,
            humans.stream().filter(h -> sees(h, t)).mapToInt(h -> 1 << h.number).sum()};
        return all[what];
    }

    int many(int what) {
        range(what, 0, 13);
        int[] all = {
            day, humans.size(), (int) humans.stream().filter(h -> h.alive).count(), houses.size(), scrolls.size(),
            (int) scrolls.stream().filter(s -> s.lost).count(), tools.size(), held, season(),
            humans.stream().mapToInt(h -> h.coins).sum(), given, fallen, lostFees, quarrels.size()};
        return all[what];
    }

    double meanStep(int house) {
        return living(at(houses, house)).stream().mapToInt(this::step).average().orElse(0.0);
    }

    int wouldFall(int person, int s) {
        Human h = human(person);
        range(s, 1, 9);
        need(step(h) >= s);
        return falls(h, s).size();
    }

    int wouldLose(int person) {
        Human h = human(person);
        return h.alive ? lostWith(h).stream().mapToInt(s -> 1 << s.number).sum() : 0;
    }

    long digest() {
        List<Integer> all = new ArrayList<>();
        for (int what = 0; what <= 13; what++) {
            all.add(many(what));
        }
        for (Human h : humans) {
            for (int what = 0; what <= 11; what++) {
                all.add(ofPerson(h.number, what));
            }
            all.add(wouldLose(h.number));
            for (int s = 1; s <= step(h); s++) {
                all.addAll(List.of(giver(h.number, s, false), giver(h.number, s, true), wouldFall(h.number, s)));
            }
        }
        for (House of : houses) {
            for (int what = 0; what <= 4; what++) {
                all.add(ofHouse(of.number, what));
            }
        }
        for (Scroll s : scrolls) {
            for (int what = 0; what <= 6; what++) {
                all.add(ofSecret(s.number, what));
            }
        }
        for (Tool t : tools) {
            for (int what = 0; what <= 7; what++) {
                all.add(ofUtensil(t.number, what));
            }
        }
        long d = 58226;
        for (int v : all) {
            d = d * 31 + v;
        }
        return d;
    }

    // ---- small questions

    private int step(Human h) {
        return h.steps.size();
    }

    private boolean unbroken(Human h) {
        return h.alive && (h.house.head == h || h.teacher != null && unbroken(h.teacher));
    }

    private int pupils(Human h) {
        return (int) humans.stream().filter(one -> one.alive && one.teacher == h).count();
    }

    private int name(Human h) {
        return step(h) < 5 || h.steps.get(4).by == null ? -1 : 12 * h.steps.get(4).by.number + h.number;
    }

    private List<Human> living(House of) {
        return humans.stream().filter(h -> h.alive && h.house == of).toList();
    }

    private static int number(Human h) {
        return h == null ? -1 : h.number;
    }

    private Human human(int number) {
        return at(humans, number);
    }

    private static <T> T at(List<T> all, int number) {
        if (number < 0 || number >= all.size()) {
            throw new IndexOutOfBoundsException();
        }
        return all.get(number);
    }

    private static void range(int v, int least, int most) {
        if (v < least || v > most) {
            throw new IllegalArgumentException();
        }
    }

    private static void need(boolean holds) {
        if (!holds) {
            throw new IllegalStateException();
        }
    }
}
