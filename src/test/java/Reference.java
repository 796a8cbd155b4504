import java.math.BigInteger;
import java.util.ArrayList;
import java.util.HashMap;
import java.util.List;
import java.util.Map;
import java.util.TreeSet;

/** The document told once more, as slowly and as near to its words as can be, to compare with. */
final class Reference {
    private static final int[] ROW = {64, 59, 45, 24, 0, -24, -45, -59, -64, -59, -45, -24, 0, 24, 45, 59};

    private static final class Body {
        long x;
        long y;
        long vx;
        long vy;

        Body copy() {
            Body made = new Body();
            made.x = x;
            made.y = y;
            made.vx = vx;
            made.vy = vy;
            return made;
        }
    }

    private static final class Photo {
        final List<Body> bodies = new ArrayList<>();
        List<TreeSet<Integer>> halos = new ArrayList<>();
    }

    private static final class Seen {
        int picture;
        int halo;
        long distance;
        long red;
        int part;
        long stars;
        boolean spectrum;
    }

    private int side;
    private int age;
    private List<Body> bodies = new ArrayList<>();
    private final List<Photo> photos = new ArrayList<>();
    // What was worked out since the last picture or recipe, for the sake of time alone.
    private final Map<Integer, int[]> heirs = new HashMap<>();
    private final Map<Integer, long[]> gases = new HashMap<>();
    private long g = 0;
    private long softness = 100;
    private long length = 200;
    private int least = 2;
    private long cooling = 0;
    private long forming = 0;
    private long wind = 0;
    private int mask = 0;
    private long fibre = 0;
    private long eyeX = 0;
    private long eyeY = 0;
    private long depth = 1000;

    Reference() {
        universe(4);
    }

    private static void arguments(boolean good) {
        if (!good) {
            throw new IllegalArgumentException();
        }
    }

    private static void there(boolean good) {
        if (!good) {
            throw new IndexOutOfBoundsException();
        }
    }

    private static void state(boolean good) {
        if (!good) {
            throw new IllegalStateException();
        }
    }

    private static long toRoom(long place) {
        long rest = place % 4096;
        return rest < 0 ? rest + 4096 : rest;
    }

    private static long oneWay(long a, long b) {
        long difference = b - a;
        while (difference > 2047) {
            difference -= 4096;
        }
        while (difference < -2048) {
            difference += 4096;
        }
        return difference;
    }

    private static long wayX(Body a, Body b) {
        return oneWay(a.x, b.x);
    }

    private static long wayY(Body a, Body b) {
        return oneWay(a.y, b.y);
    }

    private static long length(long x, long y) {
        return BigInteger.valueOf(x * x + y * y).sqrt().longValueExact();
    }

    private static long down(long a, long b) {
        BigInteger[] both = BigInteger.valueOf(a).divideAndRemainder(BigInteger.valueOf(b));
        return both[0].longValueExact() - (both[1].signum() != 0 && a < 0 != b < 0 ? 1 : 0);
    }

    long universe(int n) {
        arguments(n >= 2 && n <= 8);
        side = n;
        age = 1;
        photos.clear();
        forget();
        bodies = new ArrayList<>();
        for (int i = 0; i < n; i++) {
            for (int j = 0; j < n; j++) {
                Body body = new Body();
                body.x = 2048 * (2 * i + 1) / n;
                body.y = 2048 * (2 * j + 1) / n;
                bodies.add(body);
            }
        }
        return bodies.size();
    }

    private void wave(int kx, int ky, long amplitude, long phase) {
        for (int number = 0; number < bodies.size(); number++) {
            long latticeX = 2048 * (2 * (number / side) + 1) / side;
            long latticeY = 2048 * (2 * (number % side) + 1) / side;
            long index = (phase + down(16 * kx * latticeX + 16 * ky * latticeY, 4096)) % 16;
            long w = ROW[(int) (index < 0 ? index + 16 : index)];
            Body body = bodies.get(number);
            long moveX = w * amplitude * kx / 64;
            long moveY = w * amplitude * ky / 64;
            body.x = toRoom(body.x + moveX);
            body.y = toRoom(body.y + moveY);
            body.vx += moveX;
            body.vy += moveY;
        }
    }

    long ripple(int kx, int ky, int amplitude, int phase) {
        arguments(kx >= -3 && kx <= 3 && ky >= -3 && ky <= 3);
        arguments(amplitude >= -1000 && amplitude <= 1000 && phase >= 0 && phase <= 15);
        arguments(kx != 0 || ky != 0);
        state(age == 1);
        wave(kx, ky, amplitude, phase);
        return 0;
    }

    long draw(int start, int power) {
        arguments(start >= 0 && power >= 0 && power <= 1000);
        state(age == 1);
        BigInteger seed = BigInteger.valueOf(start);
        for (int kx = 0; kx <= 2; kx++) {
            for (int ky = -2; ky <= 2; ky++) {
                if (kx == 0 && ky <= 0) {
                    continue;
                }
                seed = seed.multiply(BigInteger.valueOf(1103515245)).add(BigInteger.valueOf(12345))
                    .mod(BigInteger.valueOf(2147483648L));
                long number = seed.longValueExact() / 65536;
                long amplitude = power / (kx * kx + ky * ky);
                wave(kx, ky, number % 2 != 0 ? -amplitude : amplitude, (number / 2) % 16);
            }
        }
        return seed.longValueExact();
    }

    private List<Body> bodiesOf(int picture) {
        if (picture == -1) {
            return bodies;
        }
        there(picture >= 0 && picture < photos.size());
        return photos.get(picture).bodies;
    }

    long grain(int picture, int grain, int what) {
        List<Body> asked = bodiesOf(picture);
        there(grain >= 0 && grain < asked.size());
        arguments(what >= 0 && what <= 3);
        Body body = asked.get(grain);
        return new long[] {body.x, body.y, body.vx, body.vy}[what];
    }

    long pull(int newG, int newSoftness) {
        arguments(newG >= 0 && newG <= 10000 && newSoftness >= 10 && newSoftness <= 1000);
        g = newG;
        softness = newSoftness;
        return 0;
    }

    private long oneByOne(int number, boolean isX) {
        long sum = 0;
        for (int other = 0; other < bodies.size(); other++) {
            if (other > number) {
                sum += pullAlong(bodies.get(number), bodies.get(other), isX);
            } else if (other < number) {
                sum -= pullAlong(bodies.get(other), bodies.get(number), isX);
            }
        }
        return sum;
    }

    private long pullAlong(Body a, Body b, boolean isX) {
        long x = wayX(a, b);
        long y = wayY(a, b);
        return g * (isX ? x : y) / (x * x + y * y + softness * softness);
    }

    private long byCells(int number, boolean isX) {
        Body own = bodies.get(number);
        long sum = 0;
        for (int cx = 0; cx < 4; cx++) {
            for (int cy = 0; cy < 4; cy++) {
                List<Body> inside = new ArrayList<>();
                for (Body body : bodies) {
                    if (body.x / 1024 == cx && body.y / 1024 == cy) {
                        inside.add(body);
                    }
                }
                long apartX = Math.abs(own.x / 1024 - cx);
                long apartY = Math.abs(own.y / 1024 - cy);
                if (apartX != 2 && apartY != 2) {
                    for (Body body : inside) {
                        sum += body == own ? 0 : pullAlong(own, body, isX);
                    }
                } else if (!inside.isEmpty()) {
                    Body one = new Body();
                    for (Body body : inside) {
                        one.x += body.x - 1024 * cx;
                        one.y += body.y - 1024 * cy;
                    }
                    one.x = 1024 * cx + one.x / inside.size();
                    one.y = 1024 * cy + one.y / inside.size();
                    sum += inside.size() * pullAlong(own, one, isX);
                }
            }
        }
        return sum;
    }

    long force(int grain, boolean isX, boolean byCells) {
        there(grain >= 0 && grain < bodies.size());
        return byCells ? byCells(grain, isX) : oneByOne(grain, isX);
    }

    long step(int many) {
        arguments(many >= 1 && many <= 20);
        state(age + many <= 1000);
        for (int turn = 0; turn < many; turn++) {
            long[][] forces = new long[bodies.size()][];
            for (int number = 0; number < bodies.size(); number++) {
                forces[number] = new long[] {oneByOne(number, true), oneByOne(number, false)};
            }
            for (int number = 0; number < bodies.size(); number++) {
                Body body = bodies.get(number);
                body.vx += forces[number][0];
                body.vy += forces[number][1];
                body.x = toRoom(body.x + body.vx / (16 * age));
                body.y = toRoom(body.y + body.vy / (16 * age));
            }
            age++;
        }
        return age;
    }

    long momentum(boolean isX) {
        return bodies.stream().mapToLong(body -> isX ? body.vx : body.vy).sum();
    }

    long link(int newLength, int newLeast) {
        arguments(newLength >= 1 && newLength <= 2000 && newLeast >= 1 && newLeast <= 64);
        length = newLength;
        least = newLeast;
        return 0;
    }

    private void gather(int number, TreeSet<Integer> group) {
        if (!group.add(number)) {
            return;
        }
        for (int other = 0; other < bodies.size(); other++) {
            long x = wayX(bodies.get(number), bodies.get(other));
            long y = wayY(bodies.get(number), bodies.get(other));
            if (x * x + y * y <= length * length) {
                gather(other, group);
            }
        }
    }

    private Photo photograph() {
        Photo made = new Photo();
        for (Body body : bodies) {
            made.bodies.add(body.copy());
        }
        TreeSet<Integer> done = new TreeSet<>();
        for (int number = 0; number < bodies.size(); number++) {
            if (!done.contains(number)) {
                TreeSet<Integer> group = new TreeSet<>();
                gather(number, group);
                done.addAll(group);
                if (group.size() >= least) {
                    made.halos.add(group);
                }
            }
        }
        made.halos.sort((a, b) -> a.size() != b.size() ? b.size() - a.size() : a.first() - b.first());
        return made;
    }

    private Photo photo(int picture) {
        if (picture == -1) {
            return photograph();
        }
        there(picture >= 0 && picture < photos.size());
        return photos.get(picture);
    }

    long halos(int picture) {
        return photo(picture).halos.size();
    }

    long halosAnew(int picture) {
        return halos(picture);
    }

    private static long bits(Iterable<Integer> numbers) {
        long sum = 0;
        for (int number : numbers) {
            sum |= 1L << number;
        }
        return sum;
    }

    long grains(int picture, int halo) {
        Photo photo = photo(picture);
        there(halo >= 0 && halo < photo.halos.size());
        return bits(photo.halos.get(halo));
    }

    private static long value(Photo photo, int halo, int what) {
        TreeSet<Integer> group = photo.halos.get(halo);
        Body lowest = photo.bodies.get(group.first());
        long sumX = 0;
        long sumY = 0;
        long sumVx = 0;
        long sumVy = 0;
        long spin = 0;
        for (int number : group) {
            Body body = photo.bodies.get(number);
            sumX += wayX(lowest, body);
            sumY += wayY(lowest, body);
            sumVx += body.vx;
            sumVy += body.vy;
            spin += wayX(lowest, body) * body.vy - wayY(lowest, body) * body.vx;
        }
        int n = group.size();
        return new long[] {n, toRoom(lowest.x + down(sumX, n)), toRoom(lowest.y + down(sumY, n)),
            down(sumVx, n), down(sumVy, n), spin}[what];
    }

    long ofHalo(int picture, int halo, int what) {
        Photo photo = photo(picture);
        there(halo >= 0 && halo < photo.halos.size());
        arguments(what >= 0 && what <= 5);
        return value(photo, halo, what);
    }

    long bound(int picture, int halo) {
        Photo photo = photo(picture);
        there(halo >= 0 && halo < photo.halos.size());
        TreeSet<Integer> group = new TreeSet<>(photo.halos.get(halo));
        while (true) {
            int worst = -1;
            long above = 0;
            for (int number : group) {
                long over = push(photo, group, number) - 2 * hold(photo, group, number);
                if (over > above) {
                    above = over;
                    worst = number;
                }
            }
            if (worst < 0) {
                return bits(group);
            }
            group.remove(worst);
        }
    }

    private static long push(Photo photo, TreeSet<Integer> group, int number) {
        long vx = 0;
        long vy = 0;
        for (int each : group) {
            vx += photo.bodies.get(each).vx;
            vy += photo.bodies.get(each).vy;
        }
        long overX = photo.bodies.get(number).vx - down(vx, group.size());
        long overY = photo.bodies.get(number).vy - down(vy, group.size());
        return overX * overX + overY * overY;
    }

    private long hold(Photo photo, TreeSet<Integer> group, int number) {
        long sum = 0;
        for (int other : group) {
            if (other != number) {
                Body a = photo.bodies.get(number);
                Body b = photo.bodies.get(other);
                sum += 64 * g / (1 + length(wayX(a, b), wayY(a, b)));
            }
        }
        return sum;
    }

    long keep() {
        state(photos.size() < 12);
        photos.add(photograph());
        forget();
        return photos.size() - 1;
    }

    private void haloThere(int picture, int halo) {
        there(picture >= 0 && picture < photos.size());
        there(halo >= 0 && halo < photos.get(picture).halos.size());
    }

    private static int common(TreeSet<Integer> a, TreeSet<Integer> b) {
        TreeSet<Integer> both = new TreeSet<>(a);
        both.retainAll(b);
        return both.size();
    }

    private void forget() {
        heirs.clear();
        gases.clear();
    }

    private int[] heir(int picture, int halo) {
        int key = 100 * picture + halo;
        if (!heirs.containsKey(key)) {
            heirs.put(key, findHeir(picture, halo));
        }
        return heirs.get(key);
    }

    /** The picture and halo that a halo goes on in, or null. */
    private int[] findHeir(int picture, int halo) {
        TreeSet<Integer> group = photos.get(picture).halos.get(halo);
        for (int later = picture + 1; later <= picture + 2 && later < photos.size(); later++) {
            List<TreeSet<Integer>> others = photos.get(later).halos;
            int best = -1;
            for (int other = 0; other < others.size(); other++) {
                int shared = common(group, others.get(other));
                if (shared > 0 && (best < 0 || shared > common(group, others.get(best)))) {
                    best = other;
                }
            }
            if (best >= 0) {
                return new int[] {later, best};
            }
        }
        return null;
    }

    /** All that go on in a halo, the later picture first. */
    private List<int[]> origins(int picture, int halo) {
        List<int[]> found = new ArrayList<>();
        for (int earlier = picture - 1; earlier >= 0; earlier--) {
            for (int other = 0; other < photos.get(earlier).halos.size(); other++) {
                int[] heir = heir(earlier, other);
                if (heir != null && heir[0] == picture && heir[1] == halo) {
                    found.add(new int[] {earlier, other});
                }
            }
        }
        return found;
    }

    private int[] mainOrigin(int picture, int halo) {
        int[] best = null;
        int most = 0;
        for (int[] origin : origins(picture, halo)) {
            int shared = common(photos.get(origin[0]).halos.get(origin[1]), photos.get(picture).halos.get(halo));
            if (shared > most) {
                most = shared;
                best = origin;
            }
        }
        return best;
    }

    private static long code(int[] place) {
        return place == null ? -1 : 100 * place[0] + place[1];
    }

    long next(int picture, int halo) {
        haloThere(picture, halo);
        return code(heir(picture, halo));
    }

    long from(int picture, int halo) {
        haloThere(picture, halo);
        return code(mainOrigin(picture, halo));
    }

    long tree(int picture, int halo, int what) {
        haloThere(picture, halo);
        arguments(what >= 0 && what <= 2);
        return what == 0 ? branch(picture, halo) : what == 1 ? origins(picture, halo).size() : all(picture, halo);
    }

    private int branch(int picture, int halo) {
        int[] main = mainOrigin(picture, halo);
        return main == null ? 1 : 1 + branch(main[0], main[1]);
    }

    private int all(int picture, int halo) {
        int sum = 1;
        for (int[] origin : origins(picture, halo)) {
            sum += all(origin[0], origin[1]);
        }
        return sum;
    }

    long recipes(int newCooling, int newForming, int newWind) {
        arguments(newCooling >= 0 && newCooling <= 1000 && newForming >= 0 && newForming <= 1000);
        arguments(newWind >= 0 && newWind <= 5000);
        cooling = newCooling;
        forming = newForming;
        wind = newWind;
        forget();
        return 0;
    }

    private long[] gas(int picture, int halo) {
        int key = 100 * picture + halo;
        if (!gases.containsKey(key)) {
            gases.put(key, findGas(picture, halo));
        }
        return gases.get(key);
    }

    /** Hot, cold, stars, blown out. */
    private long[] findGas(int picture, int halo) {
        TreeSet<Integer> fresh = new TreeSet<>(photos.get(picture).halos.get(halo));
        for (int earlier = 0; earlier < picture; earlier++) {
            for (TreeSet<Integer> other : photos.get(earlier).halos) {
                fresh.removeAll(other);
            }
        }
        long[] sum = {100 * fresh.size(), 0, 0, 0};
        for (int[] origin : origins(picture, halo)) {
            long[] theirs = gas(origin[0], origin[1]);
            for (int what = 0; what < 4; what++) {
                sum[what] += theirs[what];
            }
        }
        long cooled = sum[0] * cooling / 1000;
        sum[0] -= cooled;
        sum[1] += cooled;
        long formed = sum[1] * forming / 1000;
        sum[1] -= formed;
        sum[2] += formed;
        long blown = formed * wind / 1000;
        if (blown > sum[1]) {
            blown = sum[1];
        }
        sum[1] -= blown;
        sum[3] += blown;
        return sum;
    }

    long galaxy(int picture, int halo, int what) {
        haloThere(picture, halo);
        arguments(what >= 0 && what <= 3);
        return gas(picture, halo)[what];
    }

    long kept() {
        long sum = 0;
        for (int picture = 0; picture < photos.size(); picture++) {
            for (int halo = 0; halo < photos.get(picture).halos.size(); halo++) {
                if (heir(picture, halo) == null) {
                    for (long much : gas(picture, halo)) {
                        sum += much;
                    }
                }
            }
        }
        return sum;
    }

    long observe(int x, int y, int newDepth) {
        arguments(x >= 0 && x <= 4095 && y >= 0 && y <= 4095 && newDepth >= 1 && newDepth <= 4000);
        eyeX = x;
        eyeY = y;
        depth = newDepth;
        return 0;
    }

    long survey(int newMask, int newFibre) {
        arguments(newMask >= 0 && newMask <= 255 && newFibre >= 0 && newFibre <= 4000);
        mask = newMask;
        fibre = newFibre;
        return 0;
    }

    private List<Seen> look() {
        List<Seen> all = new ArrayList<>();
        for (int picture = photos.size() - 1; picture >= 0; picture--) {
            for (int halo = 0; halo < photos.get(picture).halos.size(); halo++) {
                Seen one = lookAt(picture, halo);
                int shell = photos.size() - 1 - picture;
                boolean inShell = one.distance >= shell * depth && one.distance <= (shell + 1) * depth - 1;
                if (inShell && one.stars > 0 && (mask >> one.part) % 2 == 0) {
                    all.add(one);
                }
            }
        }
        List<Seen> byStars = new ArrayList<>(all);
        byStars.sort((a, b) -> Long.compare(b.stars, a.stars));
        for (Seen one : byStars) {
            one.spectrum = byStars.stream().noneMatch(other -> other.spectrum && other.part == one.part
                && Math.abs(other.distance - one.distance) < fibre);
        }
        return all;
    }

    private Seen lookAt(int picture, int halo) {
        Photo photo = photos.get(picture);
        Seen one = new Seen();
        one.picture = picture;
        one.halo = halo;
        long x = oneWay(eyeX, value(photo, halo, 1));
        long y = oneWay(eyeY, value(photo, halo, 2));
        one.distance = length(x, y);
        one.red = one.distance + down(x * value(photo, halo, 3) + y * value(photo, halo, 4),
            one.distance == 0 ? 16 : 16 * one.distance);
        if (y < 0) {
            one.part += 4;
        }
        if (x * y < 0 || x == 0 && y != 0) {
            one.part += 2;
        }
        if (Math.abs(y) > Math.abs(x)) {
            one.part += 1;
        }
        one.stars = gas(picture, halo)[2];
        return one;
    }

    long seen() {
        return look().size();
    }

    long sky(int place, int what) {
        List<Seen> all = look();
        there(place >= 0 && place < all.size());
        arguments(what >= 0 && what <= 4);
        Seen one = all.get(place);
        return new long[] {100 * one.picture + one.halo, one.distance, one.red, one.part,
            one.spectrum ? 1 : 0}[what];
    }

    long pairs(int from, int to) {
        arguments(from >= 0);
        long many = 0;
        for (Body a : bodies.subList(0, bodies.size())) {
            for (Body b : bodies.subList(bodies.indexOf(a) + 1, bodies.size())) {
                long far = length(wayX(a, b), wayY(a, b));
                if (far >= from && far < to) {
                    many++;
                }
            }
        }
        return many;
    }

    long voidCells() {
        boolean[][] taken = new boolean[8][8];
        for (Body body : bodies) {
            taken[(int) (body.x / 512)][(int) (body.y / 512)] = true;
        }
        int most = 0;
        for (int x = 0; x < 8; x++) {
            for (int y = 0; y < 8; y++) {
                most = Math.max(most, fillVoid(taken, x, y));
            }
        }
        return most;
    }

    private static int fillVoid(boolean[][] taken, int x, int y) {
        int column = (x + 8) % 8;
        int line = (y + 8) % 8;
        if (taken[column][line]) {
            return 0;
        }
        taken[column][line] = true;
        return 1 + fillVoid(taken, column + 1, line) + fillVoid(taken, column - 1, line)
            + fillVoid(taken, column, line + 1) + fillVoid(taken, column, line - 1);
    }
}
