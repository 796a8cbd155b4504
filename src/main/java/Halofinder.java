/**
 * A universe of grains that fall together, its halos, the pictures kept of it, the trees and
 * galaxies along these, and the sky that an observer sees of them.
 */
public final class Halofinder {
    /** There is none. */
    public static final int NONE = -1;

    private static final int MOST_GRAINS = 64;
    private static final int MOST_PICTURES = 12;
    private static final int LAST_AGE = 1000;
    private static final int PICTURE_CODE = 100;

    private static final int HOT = 0;
    private static final int COLD = 1;
    private static final int STARS = 2;
    private static final int BLOWN_OUT = 3;
    private static final int GAS_KINDS = 4;

    private final Scene now = new Scene();
    private final Album album = new Album();
    private final Pulls pulls = new Pulls();
    private final Joining joining = new Joining();
    private final Unbinding unbinding = new Unbinding();
    private final Sky skyAbove = new Sky();
    private int age;
    private long linkLength;
    private int leastGrains;

    public Halofinder() {
        begin(4);
        pulls.tell(0, 100);
        linkLength = 200;
        leastGrains = 2;
        album.tellRecipes(0, 0, 0);
        skyAbove.tellObserver(0, 0, 1000);
        skyAbove.tellSurvey(0, 0);
    }

    // ---- universes, ripples

    public int universe(int side) throws IllegalArgumentException {
        needRange(side, 2, 8);
        begin(side);
        return now.grains.count;
    }

    public void ripple(int kx, int ky, int amplitude, int phase)
            throws IllegalArgumentException, IllegalStateException {
        needRange(kx, -3, 3);
        needRange(ky, -3, 3);
        needRange(amplitude, -1000, 1000);
        needRange(phase, 0, 15);
        if (kx == 0 && ky == 0) {
            throw new IllegalArgumentException("a ripple needs a k");
        }
        needFirstAge();
        now.grains.letRippleThrough(kx, ky, amplitude, phase);
    }

    public int draw(int seed, int power) throws IllegalArgumentException, IllegalStateException {
        needNotBelow0(seed);
        needRange(power, 0, 1000);
        needFirstAge();
        return drawRipples(seed, power);
    }

    public long grain(int picture, int grain, int what) throws IndexOutOfBoundsException, IllegalArgumentException {
        Grains asked = sceneAt(picture).grains;
        if (grain < 0 || grain >= asked.count) {
            throw new IndexOutOfBoundsException("no such grain");
        }
        needRange(what, 0, 3);
        return asked.valueOf(grain, what);
    }

    // ---- forces, steps

    public void pull(int g, int softness) throws IllegalArgumentException {
        needRange(g, 0, 10000);
        needRange(softness, 10, 1000);
        pulls.tell(g, softness);
    }

    public long force(int grain, boolean isX, boolean byCells) throws IndexOutOfBoundsException {
        if (grain < 0 || grain >= now.grains.count) {
            throw new IndexOutOfBoundsException("no such grain");
        }
        if (byCells) {
            return pulls.byCells(now.grains, grain, isX);
        }
        pulls.findAll(now.grains);
        return pulls.found(isX).get(grain);
    }

    public int step(int many) throws IllegalArgumentException, IllegalStateException {
        needRange(many, 1, 20);
        if (age + many > LAST_AGE) {
            throw new IllegalStateException("the age would be too high");
        }
        for (int done = 0; done < many; done++) {
            passOneStep();
        }
        return age;
    }

    public long momentum(boolean isX) {
        return now.grains.sumOfSpeeds(isX);
    }

    // ---- halos

    public void link(int length, int least) throws IllegalArgumentException {
        needRange(length, 1, 2000);
        needRange(least, 1, 64);
        linkLength = length;
        leastGrains = least;
    }

    public int halos(int picture) throws IndexOutOfBoundsException {
        return sceneWithHalos(picture).count;
    }

    public int halosAnew(int picture) throws IndexOutOfBoundsException {
        return joining.countHalos(sceneWithHalos(picture));
    }

    public long grains(int picture, int halo) throws IndexOutOfBoundsException {
        Scene scene = sceneWithHalos(picture);
        needHalo(scene, halo);
        return scene.members(halo);
    }

    public long ofHalo(int picture, int halo, int what) throws IndexOutOfBoundsException, IllegalArgumentException {
        Scene scene = sceneWithHalos(picture);
        needHalo(scene, halo);
        needRange(what, 0, 5);
        return scene.valueOf(halo, what);
    }

    public long bound(int picture, int halo) throws IndexOutOfBoundsException {
        Scene scene = sceneWithHalos(picture);
        needHalo(scene, halo);
        return unbinding.boundAmong(scene.grains, scene.members(halo), pulls.g);
    }

    // ---- pictures, trees

    public int keep() throws IllegalStateException {
        if (album.count >= MOST_PICTURES) {
            throw new IllegalStateException("there are as many pictures as can be kept");
        }
        return album.add(now.grains, linkLength, leastGrains);
    }

    public int next(int picture, int halo) throws IndexOutOfBoundsException {
        needKeptHalo(picture, halo);
        return album.at(picture).goesOnIn(halo);
    }

    public int from(int picture, int halo) throws IndexOutOfBoundsException {
        needKeptHalo(picture, halo);
        return album.comesMainlyFrom(picture, halo);
    }

    public int tree(int picture, int halo, int what) throws IndexOutOfBoundsException, IllegalArgumentException {
        needKeptHalo(picture, halo);
        needRange(what, 0, 2);
        if (what == 0) {
            return album.branchLength(picture, halo);
        }
        return what == 1 ? album.howManyGoOnIn(picture, halo) : album.treeSize(picture, halo);
    }

    // ---- galaxies

    public void recipes(int cooling, int forming, int wind) throws IllegalArgumentException {
        needRange(cooling, 0, 1000);
        needRange(forming, 0, 1000);
        needRange(wind, 0, 5000);
        album.tellRecipes(cooling, forming, wind);
    }

    public int galaxy(int picture, int halo, int what) throws IndexOutOfBoundsException, IllegalArgumentException {
        needKeptHalo(picture, halo);
        needRange(what, 0, 3);
        return (int) album.at(picture).gasOf(halo, what);
    }

    public int kept() {
        return (int) album.allThatDoesNotGoOn();
    }

    // ---- the sky

    public void observe(int x, int y, int depth) throws IllegalArgumentException {
        needRange(x, 0, 4095);
        needRange(y, 0, 4095);
        needRange(depth, 1, 4000);
        skyAbove.tellObserver(x, y, depth);
    }

    public void survey(int mask, int fibre) throws IllegalArgumentException {
        needRange(mask, 0, 255);
        needRange(fibre, 0, 4000);
        skyAbove.tellSurvey(mask, fibre);
    }

    public int seen() {
        skyAbove.look(album);
        return skyAbove.count;
    }

    public int sky(int place, int what) throws IndexOutOfBoundsException, IllegalArgumentException {
        skyAbove.look(album);
        if (place < 0 || place >= skyAbove.count) {
            throw new IndexOutOfBoundsException("not so many are seen");
        }
        needRange(what, 0, 4);
        return (int) skyAbove.valueOf(place, what);
    }

    // ---- counts

    public int pairs(int from, int to) throws IllegalArgumentException {
        needNotBelow0(from);
        return now.grains.countPairs(from, to);
    }

    public int voidCells() {
        return Voids.greatestAmong(now.grains);
    }

    // ---- what the calls share

    private void begin(int side) {
        now.grains.layOut(side);
        age = 1;
        album.clear();
    }

    private int drawRipples(int seed, int power) {
        long drawn = seed;
        for (int kx = 0; kx <= 2; kx++) {
            for (int ky = kx == 0 ? 1 : -2; ky <= 2; ky++) {
                drawn = (1103515245L * drawn + 12345L) % 2147483648L;
                long number = drawn / 65536L;
                long amplitude = Room.by(power, kx * kx + ky * ky);
                now.grains.letRippleThrough(kx, ky, number % 2 == 1 ? -amplitude : amplitude, number / 2 % 16);
            }
        }
        return (int) drawn;
    }

    private void passOneStep() {
        pulls.findAll(now.grains);
        now.grains.hasten(pulls.found(true), pulls.found(false));
        now.grains.moveAtAge(age);
        age++;
    }

    private Scene sceneAt(int picture) {
        if (picture == NONE) {
            return now;
        }
        if (!album.has(picture)) {
            throw new IndexOutOfBoundsException("no such picture");
        }
        return album.at(picture).scene;
    }

    private Scene sceneWithHalos(int picture) {
        Scene scene = sceneAt(picture);
        // A picture's halos stay as its own length and least number found them.
        if (picture == NONE) {
            scene.findHalos(linkLength, leastGrains);
        }
        return scene;
    }

    private static void needHalo(Scene scene, int halo) {
        if (halo < 0 || halo >= scene.count) {
            throw new IndexOutOfBoundsException("no such halo");
        }
    }

    private void needKeptHalo(int picture, int halo) {
        if (!album.has(picture)) {
            throw new IndexOutOfBoundsException("no such picture");
        }
        needHalo(album.at(picture).scene, halo);
    }

    private void needFirstAge() {
        if (age != 1) {
            throw new IllegalStateException("steps have passed");
        }
    }

    private static void needRange(int number, int lowest, int highest) {
        if (number < lowest || number > highest) {
            throw new IllegalArgumentException("an argument is out of range");
        }
    }

    private static void needNotBelow0(int number) {
        if (number < 0) {
            throw new IllegalArgumentException("an argument is below 0");
        }
    }

    /** Numbers in a row; each index is tested here, so that no use of one can fail elsewhere. */
    private static final class Row {
        private final long[] numbers;

        Row(int length) {
            numbers = new long[Math.max(0, length)];
        }

        long get(int place) {
            return place >= 0 && place < numbers.length ? numbers[place] : 0;
        }

        void set(int place, long number) {
            if (place >= 0 && place < numbers.length) {
                numbers[place] = number;
            }
        }

        void add(int place, long number) {
            if (place >= 0 && place < numbers.length) {
                numbers[place] += number;
            }
        }

        void fill(long number) {
            for (int place = 0; place < numbers.length; place++) {
                numbers[place] = number;
            }
        }

        void copy(Row other) {
            for (int place = 0; place < numbers.length; place++) {
                numbers[place] = other.get(place);
            }
        }
    }

    /** What holds of places, ways and bits wherever they are used. */
    private static final class Room {
        private static final long SIZE = 4096;
        private static final long HALF = 2048;

        private Room() {
        }

        static long place(long anywhere) {
            return Math.floorMod(anywhere, SIZE);
        }

        static long way(long from, long to) {
            return Math.floorMod(to - from + HALF, SIZE) - HALF;
        }

        static long far(long wayX, long wayY) {
            long square = wayX * wayX + wayY * wayY;
            long root = 0;
            // Both ways are at most 2048 long, so that the root is below twice 2048.
            for (long digit = HALF; digit > 0; digit /= 2) {
                long tried = root + digit;
                if (tried * tried <= square) {
                    root = tried;
                }
            }
            return root;
        }

        static long by(long number, long divisor) {
            return divisor == 0 ? 0 : number / divisor;
        }

        static long byRoundedDown(long number, long divisor) {
            return divisor == 0 ? 0 : Math.floorDiv(number, divisor);
        }

        static long bit(int place) {
            return place >= 0 && place < 64 ? 1L << place : 0;
        }

        static boolean has(long bits, int place) {
            return (bits & bit(place)) != 0;
        }

        static int lowest(long bits) {
            for (int place = 0; place < 64; place++) {
                if (has(bits, place)) {
                    return place;
                }
            }
            return NONE;
        }
    }

    /** The places and speeds of all grains at one time. */
    private static final class Grains {
        private static final int[] WAVE = {64, 59, 45, 24, 0, -24, -45, -59, -64, -59, -45, -24, 0, 24, 45, 59};

        private final Row x = new Row(MOST_GRAINS);
        private final Row y = new Row(MOST_GRAINS);
        private final Row speedX = new Row(MOST_GRAINS);
        private final Row speedY = new Row(MOST_GRAINS);
        private int side;
        private int count;

        void layOut(int newSide) {
            side = newSide;
            count = Math.min(newSide * newSide, MOST_GRAINS);
            for (int grain = 0; grain < count; grain++) {
                x.set(grain, latticeX(grain));
                y.set(grain, latticeY(grain));
            }
            speedX.fill(0);
            speedY.fill(0);
        }

        void copy(Grains other) {
            side = other.side;
            count = other.count;
            x.copy(other.x);
            y.copy(other.y);
            speedX.copy(other.speedX);
            speedY.copy(other.speedY);
        }

        private long latticeX(int grain) {
            return latticePlace(Room.by(grain, side));
        }

        private long latticeY(int grain) {
            return latticePlace(grain - side * Room.by(grain, side));
        }

        private long latticePlace(long line) {
            return Room.by(Room.HALF * (2 * line + 1), side);
        }

        void letRippleThrough(long kx, long ky, long amplitude, long phase) {
            for (int grain = 0; grain < count; grain++) {
                long turns = 16 * (kx * latticeX(grain) + ky * latticeY(grain));
                long height = waveAt(phase + Math.floorDiv(turns, Room.SIZE)) * amplitude;
                displace(grain, height * kx / 64, height * ky / 64);
            }
        }

        private static long waveAt(long phase) {
            int place = (int) Math.floorMod(phase, 16L);
            return place >= 0 && place < WAVE.length ? WAVE[place] : 0;
        }

        private void displace(int grain, long byX, long byY) {
            shift(grain, byX, byY);
            speedX.add(grain, byX);
            speedY.add(grain, byY);
        }

        private void shift(int grain, long byX, long byY) {
            x.set(grain, Room.place(x.get(grain) + byX));
            y.set(grain, Room.place(y.get(grain) + byY));
        }

        void hasten(Row byX, Row byY) {
            for (int grain = 0; grain < count; grain++) {
                speedX.add(grain, byX.get(grain));
                speedY.add(grain, byY.get(grain));
            }
        }

        void moveAtAge(int age) {
            long slowness = 16L * age;
            for (int grain = 0; grain < count; grain++) {
                shift(grain, Room.by(speedX.get(grain), slowness), Room.by(speedY.get(grain), slowness));
            }
        }

        Row places(boolean isX) {
            return isX ? x : y;
        }

        Row speeds(boolean isX) {
            return isX ? speedX : speedY;
        }

        long valueOf(int grain, int what) {
            return (what < 2 ? places(what == 0) : speeds(what == 2)).get(grain);
        }

        long way(int start, int end, boolean isX) {
            Row places = places(isX);
            return Room.way(places.get(start), places.get(end));
        }

        /** The grains, as bits, that are within a length of one, itself too. */
        long within(long length, int grain) {
            long found = 0;
            for (int other = 0; other < count; other++) {
                if (areWithin(length, grain, other)) {
                    found |= Room.bit(other);
                }
            }
            return found;
        }

        boolean areWithin(long length, int one, int other) {
            long wayX = Room.way(x.get(one), x.get(other));
            long wayY = Room.way(y.get(one), y.get(other));
            return wayX * wayX + wayY * wayY <= length * length;
        }

        long farBetween(int one, int other) {
            return Room.far(way(one, other, true), way(one, other, false));
        }

        long sumOfSpeeds(boolean isX) {
            Row speeds = speeds(isX);
            long sum = 0;
            for (int grain = 0; grain < count; grain++) {
                sum += speeds.get(grain);
            }
            return sum;
        }

        /** The speed that the grains of some bits have together. */
        long commonSpeed(long members, boolean isX) {
            Row speeds = speeds(isX);
            long sum = 0;
            for (int grain = 0; grain < count; grain++) {
                if (Room.has(members, grain)) {
                    sum += speeds.get(grain);
                }
            }
            return Room.byRoundedDown(sum, Long.bitCount(members));
        }

        int countPairs(long least, long above) {
            int pairs = 0;
            for (int low = 0; low < count; low++) {
                for (int high = low + 1; high < count; high++) {
                    long far = farBetween(low, high);
                    if (far >= least && far < above) {
                        pairs++;
                    }
                }
            }
            return pairs;
        }
    }

    /** How grains pull, and the forces found last. */
    private static final class Pulls {
        private static final int CELLS = 4;
        private static final long CELL_SIZE = 1024;

        private long g;
        private long softness;
        private final Row forceX = new Row(MOST_GRAINS);
        private final Row forceY = new Row(MOST_GRAINS);
        private final Row inCell = new Row(CELLS * CELLS);
        private final Row beyondX = new Row(CELLS * CELLS);
        private final Row beyondY = new Row(CELLS * CELLS);

        void tell(int newG, int newSoftness) {
            g = newG;
            softness = newSoftness;
        }

        Row found(boolean isX) {
            return isX ? forceX : forceY;
        }

        void findAll(Grains grains) {
            forceX.fill(0);
            forceY.fill(0);
            for (int low = 0; low < grains.count; low++) {
                pullWithAllAbove(grains, low);
            }
        }

        // Both grains of a pair get the same pull, so that momentum is kept whatever is dropped.
        private void pullWithAllAbove(Grains grains, int low) {
            long lowX = grains.x.get(low);
            long lowY = grains.y.get(low);
            for (int high = low + 1; high < grains.count; high++) {
                long wayX = Room.way(lowX, grains.x.get(high));
                long wayY = Room.way(lowY, grains.y.get(high));
                long weakness = weaknessOver(wayX, wayY);
                long pullX = Room.by(g * wayX, weakness);
                long pullY = Room.by(g * wayY, weakness);
                forceX.add(low, pullX);
                forceY.add(low, pullY);
                forceX.add(high, -pullX);
                forceY.add(high, -pullY);
            }
        }

        private long weaknessOver(long wayX, long wayY) {
            return wayX * wayX + wayY * wayY + softness * softness;
        }

        private long pullFrom(long wayX, long wayY, boolean isX) {
            return Room.by(g * (isX ? wayX : wayY), weaknessOver(wayX, wayY));
        }

        long byCells(Grains grains, int grain, boolean isX) {
            inCell.fill(0);
            beyondX.fill(0);
            beyondY.fill(0);
            long sum = 0;
            for (int other = 0; other < grains.count; other++) {
                if (areNear(grains, grain, other)) {
                    sum += pullFrom(grains.way(grain, other, true), grains.way(grain, other, false), isX);
                } else {
                    putInCell(grains, other);
                }
            }
            for (int cell = 0; cell < CELLS * CELLS; cell++) {
                sum += pullOfCell(grains, grain, cell, isX);
            }
            return sum;
        }

        private static boolean areNear(Grains grains, int grain, int other) {
            return linesAreNear(grains.x.get(grain), grains.x.get(other))
                && linesAreNear(grains.y.get(grain), grains.y.get(other));
        }

        // Of four lines of cells in a ring only the one across is not the own one or beside it.
        private static boolean linesAreNear(long place, long other) {
            return Math.floorMod(place / CELL_SIZE - other / CELL_SIZE, 4L) != 2;
        }

        private void putInCell(Grains grains, int grain) {
            long x = grains.x.get(grain);
            long y = grains.y.get(grain);
            int cell = (int) (x / CELL_SIZE * CELLS + y / CELL_SIZE);
            inCell.add(cell, 1);
            beyondX.add(cell, x % CELL_SIZE);
            beyondY.add(cell, y % CELL_SIZE);
        }

        private long pullOfCell(Grains grains, int grain, int cell, boolean isX) {
            long many = inCell.get(cell);
            long placeX = cell / CELLS * CELL_SIZE + Room.by(beyondX.get(cell), many);
            long placeY = cell % CELLS * CELL_SIZE + Room.by(beyondY.get(cell), many);
            long wayX = Room.way(grains.x.get(grain), placeX);
            long wayY = Room.way(grains.y.get(grain), placeY);
            return many * pullFrom(wayX, wayY, isX);
        }
    }

    /** Grains at one time with the halos that were found among them. */
    private static final class Scene {
        private final Grains grains = new Grains();
        private final Row halos = new Row(MOST_GRAINS);
        private int count;
        private long linkLength;
        private int leastGrains;

        void findHalos(long length, int least) {
            linkLength = length;
            leastGrains = least;
            count = 0;
            long looked = 0;
            for (int grain = 0; grain < grains.count; grain++) {
                if (!Room.has(looked, grain)) {
                    long group = groupOf(grain);
                    looked |= group;
                    if (Long.bitCount(group) >= least) {
                        insert(group);
                    }
                }
            }
        }

        boolean areLinked(int one, int other) {
            return grains.areWithin(linkLength, one, other);
        }

        private long groupOf(int first) {
            long group = Room.bit(first);
            long waiting = group;
            // Each grain waits once at most.
            for (int turn = 0; turn < MOST_GRAINS && waiting != 0; turn++) {
                int grain = Room.lowest(waiting);
                long fresh = grains.within(linkLength, grain) & ~group;
                group |= fresh;
                waiting = waiting & ~Room.bit(grain) | fresh;
            }
            return group;
        }

        // Groups come by their lowest grains, so that one goes behind those of as many grains.
        private void insert(long group) {
            int place = count;
            for (int ahead = count - 1; ahead >= 0 && howMany(ahead) < Long.bitCount(group); ahead--) {
                halos.set(ahead + 1, halos.get(ahead));
                place = ahead;
            }
            halos.set(place, group);
            count++;
        }

        long members(int halo) {
            return halos.get(halo);
        }

        int howMany(int halo) {
            return Long.bitCount(halos.get(halo));
        }

        long allMembers() {
            long all = 0;
            for (int halo = 0; halo < count; halo++) {
                all |= members(halo);
            }
            return all;
        }

        int haloWithMostOf(long wanted) {
            int best = NONE;
            int most = 0;
            for (int halo = 0; halo < count; halo++) {
                int shared = Long.bitCount(members(halo) & wanted);
                if (shared > most) {
                    most = shared;
                    best = halo;
                }
            }
            return best;
        }

        long valueOf(int halo, int what) {
            switch (what) {
                case 0:
                    return howMany(halo);
                case 1:
                case 2:
                    return middle(halo, what == 1);
                case 3:
                case 4:
                    return speed(halo, what == 3);
                default:
                    return spin(halo);
            }
        }

        long middle(int halo, boolean isX) {
            long members = members(halo);
            int lowest = Room.lowest(members);
            long ways = 0;
            for (int grain = 0; grain < grains.count; grain++) {
                if (Room.has(members, grain)) {
                    ways += grains.way(lowest, grain, isX);
                }
            }
            return Room.place(grains.places(isX).get(lowest) + Room.byRoundedDown(ways, howMany(halo)));
        }

        long speed(int halo, boolean isX) {
            return grains.commonSpeed(members(halo), isX);
        }

        private long spin(int halo) {
            long members = members(halo);
            int lowest = Room.lowest(members);
            long spin = 0;
            for (int grain = 0; grain < grains.count; grain++) {
                if (Room.has(members, grain)) {
                    spin += grains.way(lowest, grain, true) * grains.speedY.get(grain)
                        - grains.way(lowest, grain, false) * grains.speedX.get(grain);
                }
            }
            return spin;
        }
    }

    /** Counts halos in a way of its own: grains bear names, and each link makes two names one. */
    private static final class Joining {
        private final Row names = new Row(MOST_GRAINS);
        private final Row bearers = new Row(MOST_GRAINS);

        int countHalos(Scene scene) {
            int grains = scene.grains.count;
            for (int grain = 0; grain < grains; grain++) {
                names.set(grain, grain);
            }
            for (int low = 0; low < grains; low++) {
                for (int high = low + 1; high < grains; high++) {
                    if (scene.areLinked(low, high)) {
                        rename(grains, names.get(high), names.get(low));
                    }
                }
            }
            return countNames(grains, scene.leastGrains);
        }

        private void rename(int grains, long old, long fresh) {
            if (old == fresh) {
                return;
            }
            for (int grain = 0; grain < grains; grain++) {
                if (names.get(grain) == old) {
                    names.set(grain, fresh);
                }
            }
        }

        private int countNames(int grains, int leastBearers) {
            bearers.fill(0);
            for (int grain = 0; grain < grains; grain++) {
                bearers.add((int) names.get(grain), 1);
            }
            int counted = 0;
            for (int name = 0; name < grains; name++) {
                if (bearers.get(name) >= leastBearers) {
                    counted++;
                }
            }
            return counted;
        }
    }

    /** Leaves out grain by grain what a halo does not hold. */
    private static final class Unbinding {
        private final Row holds = new Row(MOST_GRAINS);

        long boundAmong(Grains grains, long members, long g) {
            sumHolds(grains, members, g);
            long there = members;
            for (int round = 0; round < MOST_GRAINS; round++) {
                int loosest = loosestOf(grains, there);
                if (loosest == NONE) {
                    break;
                }
                there &= ~Room.bit(loosest);
                takeHoldsOf(grains, there, loosest, g);
            }
            return there;
        }

        private static long holdBetween(Grains grains, int one, int other, long g) {
            return Room.by(64 * g, 1 + grains.farBetween(one, other));
        }

        private void sumHolds(Grains grains, long members, long g) {
            holds.fill(0);
            for (int low = 0; low < grains.count; low++) {
                for (int high = low + 1; high < grains.count; high++) {
                    if (Room.has(members, low) && Room.has(members, high)) {
                        long hold = holdBetween(grains, low, high, g);
                        holds.add(low, hold);
                        holds.add(high, hold);
                    }
                }
            }
        }

        private void takeHoldsOf(Grains grains, long there, int left, long g) {
            for (int grain = 0; grain < grains.count; grain++) {
                if (Room.has(there, grain)) {
                    holds.add(grain, -holdBetween(grains, grain, left, g));
                }
            }
        }

        private int loosestOf(Grains grains, long there) {
            long theirX = grains.commonSpeed(there, true);
            long theirY = grains.commonSpeed(there, false);
            int loosest = NONE;
            long most = 0;
            for (int grain = 0; grain < grains.count; grain++) {
                if (Room.has(there, grain)) {
                    long overX = grains.speedX.get(grain) - theirX;
                    long overY = grains.speedY.get(grain) - theirY;
                    long above = overX * overX + overY * overY - 2 * holds.get(grain);
                    if (above > most) {
                        most = above;
                        loosest = grain;
                    }
                }
            }
            return loosest;
        }
    }

    /** A scene that was kept, what its halos go on in, and the galaxy of each. */
    private static final class Picture {
        private final Scene scene = new Scene();
        private final Row goingOn = new Row(MOST_GRAINS);
        private final Row gas = new Row(MOST_GRAINS * GAS_KINDS);

        void begin(Grains grains) {
            scene.grains.copy(grains);
            goingOn.fill(NONE);
        }

        int goesOnIn(int halo) {
            return (int) goingOn.get(halo);
        }

        long gasOf(int halo, int what) {
            return gas.get(GAS_KINDS * halo + what);
        }

        void addGas(int halo, int what, long much) {
            gas.add(GAS_KINDS * halo + what, much);
        }

        void beginGalaxies(long everInHalos) {
            gas.fill(0);
            for (int halo = 0; halo < scene.count; halo++) {
                addGas(halo, HOT, 100L * Long.bitCount(scene.members(halo) & ~everInHalos));
            }
        }

        void useRecipes(int halo, long cooling, long forming, long wind) {
            turn(halo, HOT, COLD, cooling * gasOf(halo, HOT) / 1000);
            long formed = forming * gasOf(halo, COLD) / 1000;
            turn(halo, COLD, STARS, formed);
            turn(halo, COLD, BLOWN_OUT, Math.min(wind * formed / 1000, gasOf(halo, COLD)));
        }

        private void turn(int halo, int old, int fresh, long much) {
            addGas(halo, old, -much);
            addGas(halo, fresh, much);
        }
    }

    /** All pictures that are kept, joined into trees along which galaxies grow. */
    private static final class Album {
        private final Picture[] pictures = new Picture[MOST_PICTURES];
        private final Picture nothing = new Picture();
        private final Row reached = new Row(MOST_PICTURES);
        private int count;
        private long cooling;
        private long forming;
        private long wind;

        Album() {
            for (int number = 0; number < pictures.length; number++) {
                pictures[number] = new Picture();
            }
        }

        void clear() {
            count = 0;
        }

        boolean has(int number) {
            return number >= 0 && number < count;
        }

        /** The picture of a number; one without halos where there is none. */
        Picture at(int number) {
            Picture found = has(number) && number < pictures.length ? pictures[number] : nothing;
            return found == null ? nothing : found;
        }

        int add(Grains grains, long length, int least) {
            int number = count;
            count++;
            Picture fresh = at(number);
            fresh.begin(grains);
            fresh.scene.findHalos(length, least);
            letGoOn(number - 1, number);
            letGoOn(number - 2, number);
            growGalaxies();
            return number;
        }

        private static int codeOf(int number, int halo) {
            return PICTURE_CODE * number + halo;
        }

        private void letGoOn(int earlier, int later) {
            Picture old = at(earlier);
            for (int halo = 0; halo < old.scene.count; halo++) {
                if (old.goesOnIn(halo) == NONE) {
                    int heir = at(later).scene.haloWithMostOf(old.scene.members(halo));
                    old.goingOn.set(halo, heir == NONE ? NONE : codeOf(later, heir));
                }
            }
        }

        int comesMainlyFrom(int number, int halo) {
            long members = at(number).scene.members(halo);
            int main = NONE;
            int most = 0;
            // A halo skips one picture at most.
            for (int earlier = number - 1; earlier >= number - 2; earlier--) {
                Picture old = at(earlier);
                for (int origin = 0; origin < old.scene.count; origin++) {
                    int shared = Long.bitCount(old.scene.members(origin) & members);
                    if (old.goesOnIn(origin) == codeOf(number, halo) && shared > most) {
                        most = shared;
                        main = codeOf(earlier, origin);
                    }
                }
            }
            return main;
        }

        int branchLength(int number, int halo) {
            int length = 0;
            int code = codeOf(number, halo);
            for (int hop = 0; hop < MOST_PICTURES && code != NONE; hop++) {
                length++;
                code = comesMainlyFrom(code / PICTURE_CODE, code % PICTURE_CODE);
            }
            return length;
        }

        int howManyGoOnIn(int number, int halo) {
            int many = 0;
            for (int earlier = number - 1; earlier >= number - 2; earlier--) {
                Picture old = at(earlier);
                for (int origin = 0; origin < old.scene.count; origin++) {
                    if (old.goesOnIn(origin) == codeOf(number, halo)) {
                        many++;
                    }
                }
            }
            return many;
        }

        int treeSize(int number, int halo) {
            reached.fill(0);
            reached.set(number, Room.bit(halo));
            int size = 1;
            for (int earlier = number - 1; earlier >= 0; earlier--) {
                reached.set(earlier, leadingToReached(at(earlier)));
                size += Long.bitCount(reached.get(earlier));
            }
            return size;
        }

        private long leadingToReached(Picture old) {
            long leading = 0;
            for (int halo = 0; halo < old.scene.count; halo++) {
                int code = old.goesOnIn(halo);
                if (code != NONE && Room.has(reached.get(code / PICTURE_CODE), code % PICTURE_CODE)) {
                    leading |= Room.bit(halo);
                }
            }
            return leading;
        }

        void tellRecipes(int newCooling, int newForming, int newWind) {
            cooling = newCooling;
            forming = newForming;
            wind = newWind;
            growGalaxies();
        }

        private void growGalaxies() {
            long everInHalos = 0;
            for (int number = 0; number < count; number++) {
                Picture picture = at(number);
                picture.beginGalaxies(everInHalos);
                everInHalos |= picture.scene.allMembers();
            }
            // Halos go on in later pictures alone, so that all have come to one when it is its turn.
            for (int number = 0; number < count; number++) {
                Picture picture = at(number);
                for (int halo = 0; halo < picture.scene.count; halo++) {
                    picture.useRecipes(halo, cooling, forming, wind);
                    handOn(picture, halo);
                }
            }
        }

        private void handOn(Picture picture, int halo) {
            int code = picture.goesOnIn(halo);
            if (code == NONE) {
                return;
            }
            Picture heir = at(code / PICTURE_CODE);
            for (int what = 0; what < GAS_KINDS; what++) {
                heir.addGas(code % PICTURE_CODE, what, picture.gasOf(halo, what));
            }
        }

        long allThatDoesNotGoOn() {
            long all = 0;
            for (int number = 0; number < count; number++) {
                Picture picture = at(number);
                for (int halo = 0; halo < picture.scene.count; halo++) {
                    for (int what = 0; what < GAS_KINDS && picture.goesOnIn(halo) == NONE; what++) {
                        all += picture.gasOf(halo, what);
                    }
                }
            }
            return all;
        }
    }

    /** What an observer sees of an album, in its order. */
    private static final class Sky {
        private static final int MOST_SEEN = MOST_PICTURES * MOST_GRAINS;
        private static final int NOT_ASKED = 2;

        private final Row codes = new Row(MOST_SEEN);
        private final Row distances = new Row(MOST_SEEN);
        private final Row reds = new Row(MOST_SEEN);
        private final Row parts = new Row(MOST_SEEN);
        private final Row stars = new Row(MOST_SEEN);
        private final Row spectra = new Row(MOST_SEEN);
        private int count;
        private long x;
        private long y;
        private long depth;
        private int mask;
        private long fibre;

        void tellObserver(int newX, int newY, int newDepth) {
            x = newX;
            y = newY;
            depth = newDepth;
        }

        void tellSurvey(int newMask, int newFibre) {
            mask = newMask;
            fibre = newFibre;
        }

        void look(Album album) {
            count = 0;
            for (int back = 0; back < album.count; back++) {
                int number = album.count - 1 - back;
                Picture picture = album.at(number);
                for (int halo = 0; halo < picture.scene.count; halo++) {
                    if (picture.gasOf(halo, STARS) > 0) {
                        lookAt(picture, halo, Album.codeOf(number, halo), back);
                    }
                }
            }
        }

        private void lookAt(Picture picture, int halo, int code, int back) {
            long wayX = Room.way(x, picture.scene.middle(halo, true));
            long wayY = Room.way(y, picture.scene.middle(halo, false));
            long distance = Room.far(wayX, wayY);
            int part = partOf(wayX, wayY);
            if (distance < back * depth || distance >= (back + 1) * depth || Room.has(mask, part)) {
                return;
            }
            long towards = wayX * picture.scene.speed(halo, true) + wayY * picture.scene.speed(halo, false);
            codes.set(count, code);
            distances.set(count, distance);
            reds.set(count, distance + Room.byRoundedDown(towards, distance == 0 ? 16 : 16 * distance));
            parts.set(count, part);
            stars.set(count, picture.gasOf(halo, STARS));
            count++;
        }

        private static int partOf(long wayX, long wayY) {
            int part = wayY < 0 ? 4 : 0;
            if (wayX * wayY < 0 || wayX == 0 && wayY != 0) {
                part += 2;
            }
            return Math.abs(wayY) > Math.abs(wayX) ? part + 1 : part;
        }

        long valueOf(int place, int what) {
            switch (what) {
                case 0:
                    return codes.get(place);
                case 1:
                    return distances.get(place);
                case 2:
                    return reds.get(place);
                case 3:
                    return parts.get(place);
                default:
                    giveSpectra();
                    return spectra.get(place);
            }
        }

        private void giveSpectra() {
            spectra.fill(NOT_ASKED);
            for (int turn = 0; turn < count; turn++) {
                int brightest = brightestNotAsked();
                spectra.set(brightest, isFree(brightest) ? 1 : 0);
            }
        }

        private int brightestNotAsked() {
            int brightest = NONE;
            long most = 0;
            for (int place = 0; place < count; place++) {
                if (spectra.get(place) == NOT_ASKED && stars.get(place) > most) {
                    most = stars.get(place);
                    brightest = place;
                }
            }
            return brightest;
        }

        private boolean isFree(int wanted) {
            for (int place = 0; place < count; place++) {
                if (spectra.get(place) == 1 && parts.get(place) == parts.get(wanted)
                    && Math.abs(distances.get(place) - distances.get(wanted)) < fibre) {
                    return false;
                }
            }
            return true;
        }
    }

    /** Cells of 512 by 512, eight by eight, as the bits of one number. */
    private static final class Voids {
        private static final int CELLS = 64;
        private static final long CELL_SIZE = 512;
        private static final long FIRST_OF_LINES = 0x0101010101010101L;

        private Voids() {
        }

        static int greatestAmong(Grains grains) {
            long left = cellsWithout(grains);
            int greatest = 0;
            for (int cell = 0; cell < CELLS; cell++) {
                if (Room.has(left, cell)) {
                    long hollow = spread(Room.bit(cell), left);
                    left &= ~hollow;
                    greatest = Math.max(greatest, Long.bitCount(hollow));
                }
            }
            return greatest;
        }

        private static long cellsWithout(Grains grains) {
            long taken = 0;
            for (int grain = 0; grain < grains.count; grain++) {
                long line = grains.x.get(grain) / CELL_SIZE;
                taken |= Room.bit((int) (8 * line + grains.y.get(grain) / CELL_SIZE));
            }
            return ~taken;
        }

        private static long spread(long first, long empty) {
            long reached = first;
            for (int round = 0; round < CELLS; round++) {
                reached |= besides(reached) & empty;
            }
            return reached;
        }

        private static long besides(long cells) {
            long lineUp = cells << 8 | cells >>> 56;
            long lineDown = cells >>> 8 | cells << 56;
            // Within a line of eight the last cell is beside the first one.
            long up = cells << 1 & ~FIRST_OF_LINES | cells >>> 7 & FIRST_OF_LINES;
            long down = cells >>> 1 & ~(FIRST_OF_LINES << 7) | cells << 7 & FIRST_OF_LINES << 7;
            return lineUp | lineDown | up | down;
        }
    }
}
