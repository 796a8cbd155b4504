/** Promises 27 and 28: a test for each sentence that names an edge, under its words. */
public final class EdgesOfCountsTest {
    private static final Due DUE = new Due("EdgesOfCountsTest");

    public static void main(String[] args) {
        fromIsNotBelowNothing();
        toIsOneMoreThanTheMost();
        pairsOfNothingBetween();
        pairsOfOnePlace();
        pairsAcrossTheEdge();
        pairsAtTheFarthest();
        pairsOfAllGrains();
        noVoid();
        oneVoidOfAllCellsButOne();
        voidsAcrossTheEdges();
        voidsAcrossEachEdge();
        voidsApart();
        voidsAtCornersAreApart();
        cellsEndWhereTheyShould();
        voidsWithoutPictures();
        DUE.end();
    }

    private static void pairs(Halofinder x, int from, int to, int want) {
        DUE.is("pairs(" + from + ", " + to + ")", want, x.pairs(from, to));
    }

    /** Two grains each at 1000 and 1004. */
    private static Halofinder fourApart() {
        return Scenes.inALine(1000, 1004, 1000, 1004);
    }

    // "Throws IllegalArgumentException if from is below 0"
    private static void fromIsNotBelowNothing() {
        Halofinder x = fourApart();
        int[] wrong = {-1, -2, Integer.MIN_VALUE};
        for (int from : wrong) {
            DUE.throwsIt("pairs(" + from + ", 5)", IllegalArgumentException.class, () -> x.pairs(from, 5));
            DUE.throwsIt("pairs(" + from + ", -5)", IllegalArgumentException.class, () -> x.pairs(from, -5));
        }
        pairs(x, 0, 5, 6);
        pairs(x, 1, 5, 4);
        pairs(x, 4, 5, 4);
        pairs(x, 5, 6, 0);
        pairs(x, Integer.MAX_VALUE, Integer.MAX_VALUE, 0);
    }

    // "to: one more than how far they are at most"
    private static void toIsOneMoreThanTheMost() {
        Halofinder x = fourApart();
        pairs(x, 0, 4, 2);
        pairs(x, 0, 5, 6);
        pairs(x, 4, 5, 4);
        pairs(x, 4, Integer.MAX_VALUE, 4);
        Halofinder y = new Halofinder();
        pairs(y, 1448, 1449, 32);
        pairs(y, 1449, 1450, 0);
        pairs(y, 1447, 1448, 0);
    }

    // The same where it is not above from, or below 0: nothing is so far
    private static void pairsOfNothingBetween() {
        Halofinder x = fourApart();
        pairs(x, 0, 0, 0);
        pairs(x, 4, 4, 0);
        pairs(x, 5, 4, 0);
        pairs(x, 4, 0, 0);
        pairs(x, 0, -1, 0);
        pairs(x, 0, Integer.MIN_VALUE, 0);
        pairs(x, Integer.MAX_VALUE, Integer.MIN_VALUE, 0);
    }

    // "Counts pairs of grains": each once, no grain with itself
    private static void pairsOfOnePlace() {
        Halofinder x = Scenes.oneHalo(4095, 0);
        pairs(x, 0, 1, 6);
        pairs(x, 1, 4096, 0);
    }

    // "how far they are": the shorter way
    private static void pairsAcrossTheEdge() {
        Halofinder x = Scenes.placed(new int[] {0, 4088, 4088, 0}, new int[] {4090, 0, 0, 4090});
        pairs(x, 10, 11, 4);
        pairs(x, 0, 10, 2);
        x.step(1);
        pairs(x, 10, 11, 0);
    }

    // "how far they are": 2048 both ways
    private static void pairsAtTheFarthest() {
        Halofinder x = new Halofinder();
        x.universe(2);
        pairs(x, 2048, 2049, 4);
        pairs(x, 2896, 2897, 2);
        pairs(x, 2897, Integer.MAX_VALUE, 0);
        pairs(x, 0, 2048, 0);
    }

    // "Returns how many pairs": of 64 grains
    private static void pairsOfAllGrains() {
        Halofinder x = new Halofinder();
        x.universe(8);
        pairs(x, 0, Integer.MAX_VALUE, 2016);
        pairs(x, 512, 513, 128);
        pairs(x, 0, 512, 0);
        pairs(x, 2896, 2897, 32);
    }

    private static void voids(String of, Halofinder x, int want) {
        DUE.is("void " + of, want, x.voidCells());
    }

    // "0 if there is none": a grain in each cell
    private static void noVoid() {
        Halofinder x = new Halofinder();
        x.universe(8);
        voids("of none", x, 0);
        x.ripple(1, 0, 255, 1);
        voids("of none, as none leaves its cell", x, 0);
    }

    // "Returns how many of 64 cells": all but one, wherever that is
    private static void oneVoidOfAllCellsButOne() {
        int[] places = {0, 511, 512, 2047, 2048, 3583, 3584, 4095};
        for (int place : places) {
            voids("but one at " + place + ", 0", Scenes.oneHalo(place, 0), 63);
            voids("but one at 4095, " + place, Scenes.oneHalo(4095, place), 63);
        }
    }

    // "cells without grains that hang together by sides": of a room whose opposite sides are one. Ripples
    // of a lattice of 8 empty lines 0 and 7, or columns 0 and 7, which are one void of 16.
    private static void voidsAcrossTheEdges() {
        Halofinder x = new Halofinder();
        x.universe(8);
        x.ripple(1, 0, 700, 12);
        voids("across in x", x, 16);
        x.universe(8);
        x.ripple(0, 1, 700, 12);
        voids("across in y", x, 16);
        Halofinder y = Scenes.placed(new int[] {0, 0, 0, 0}, new int[] {0, 2048, 0, 2048});
        voids("around two cells", y, 62);
    }

    private static void mapped(Halofinder x, String... lines) {
        char[][] map = new char[8][8];
        for (char[] line : map) {
            java.util.Arrays.fill(line, '.');
        }
        for (int grain = 0; grain < 49; grain++) {
            map[(int) x.grain(-1, grain, 0) / 512][(int) x.grain(-1, grain, 1) / 512] = '#';
        }
        for (int line = 0; line < 8; line++) {
            DUE.same("cells of line " + line, lines[line], new String(map[line]));
        }
    }

    // The same of voids that would be smaller, were one of the four ways across an edge not there.
    private static void voidsAcrossEachEdge() {
        Halofinder x = new Halofinder();
        x.universe(7);
        x.ripple(-3, 2, 450, 8);
        mapped(x, "#..##...", ".##.##..", ".#.#..##", "##.###.#", ".##..##.", "#.###.#.", "##..#.##", "..#..##.");
        voids("through all four edges", x, 12);
        x.universe(7);
        x.ripple(-3, 1, 350, 0);
        mapped(x, ".#.##.#.", "..#.#..#", "..#.##.#", "##.#..#.", ".#.##.#.", ".#..#.##", "..#..#..", "#..#.#..");
        voids("through all four edges", x, 19);
        x.universe(7);
        x.ripple(-2, -2, 450, 8);
        mapped(x, "..##.###", ".##.###.", "######..", "#.###.#.", ".###.##.", "###.##..", "##.##.##", "#.....##");
        voids("through all four edges", x, 19);
    }

    // "the greatest void": lines 4 and 7 of eight cells each do not hang together
    private static void voidsApart() {
        Halofinder x = new Halofinder();
        x.universe(8);
        x.ripple(1, 0, 300, 0);
        voids("of two lines", x, 8);
        x.universe(8);
        x.ripple(0, 1, 300, 0);
        voids("of two columns", x, 8);
        x.ripple(1, 0, 300, 0);
        voids("of two lines and two columns", x, 28);
        x.universe(7);
        x.ripple(1, -2, 800, 12);
        mapped(x, "#..##.##", ".###.#..", "##..##.#", ".####...", "##..####", "####.#..", ".##..###", "####..#.");
        voids("of 2, 6, 8, 1, 2, 2, 2, 1 and 1", x, 8);
    }

    // "by sides": not by corners
    private static void voidsAtCornersAreApart() {
        Halofinder x = new Halofinder();
        x.universe(6);
        x.ripple(1, -2, 50, 0);
        voids("of 28 by corners", x, 13);
        x.universe(7);
        x.ripple(-3, 3, 600, 6);
        mapped(x, ".#.#.###", "#.#.#.##", ".#..#..#", "##....#.", ".##..#.#", "#.##..#.", ".#.###.#", "#.#.#.#.");
        voids("of 14, and 17 of 1", x, 14);
    }

    // "cells of 512 by 512": places 511 and 512 are in two cells
    private static void cellsEndWhereTheyShould() {
        int[] ends = {511, 1023, 1535, 2047, 2559, 3071, 3583};
        for (int end : ends) {
            Halofinder x = Scenes.inALine(end, end, end - 2, end - 2);
            voids("with two in one cell before " + end, x, 63);
            Halofinder y = Scenes.inALine(end, end, end + 2, end + 2);
            voids("with two beside " + end, y, 62);
            Halofinder z = Scenes.inALine(end + 1, end + 1, end + 3, end + 3);
            voids("with two in one cell behind " + end, z, 63);
        }
        Halofinder w = Scenes.inALine(4095, 4095, 1, 1);
        voids("with two beside the edge", w, 62);
        Halofinder v = Scenes.placed(new int[] {9, 9, 9, 9}, new int[] {511, 513, 511, 513});
        voids("with two beside 511 in y", v, 62);
        Halofinder u = Scenes.placed(new int[] {9, 9, 9, 9}, new int[] {509, 511, 509, 511});
        voids("with two before 511 in y", u, 63);
    }

    // "so far now": pictures and halos do not count
    private static void voidsWithoutPictures() {
        Halofinder x = new Halofinder();
        x.universe(8);
        x.link(512, 1);
        x.keep();
        voids("of now", x, 0);
        pairs(x, 512, 513, 128);
        x.universe(2);
        voids("of four grains", x, 60);
        pairs(x, 0, 4096, 6);
    }
}
