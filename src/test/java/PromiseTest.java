/** Each promise of the document by answers that were worked out by hand from its words. */
public final class PromiseTest {
    static final int BEYOND = -1000001, FULL = -1000002, KIND = -1000003, NONE = -1000004, STATE = -1000005,
            MISSING = -1000006, SIZE = -1000007;
    static final int MOST = Integer.MAX_VALUE, LEAST = Integer.MIN_VALUE;
    static int wrong = 0;
    static int promise = 0;

    static void due(String call, long got, long want) {
        if (got != want) {
            wrong++;
            System.out.println("promise " + promise + ": " + call + " answered " + got + ", due is " + want);
        }
    }

    static void feed(BellMilk x, String text) {
        for (int i = 0; i < text.length(); i++) x.feed(text.charAt(i), 1);
    }

    static int text(BellMilk x, String text) {
        feed(x, text);
        return x.text();
    }

    /** A new hill with the herd of a text. */
    static BellMilk herd(String text) {
        BellMilk x = new BellMilk();
        if (text(x, text) < 1) {
            wrong++;
            System.out.println("promise " + promise + ": no herd from " + text);
        }
        return x;
    }

    static void sheet(BellMilk x, int s, int bits, int... numbers) {
        due("sheet", x.sheet(s, bits, numbers.length), numbers.length);
        for (int i = 0; i < numbers.length; i++) due("write", x.write(s, i, numbers[i]), 1);
    }

    static void p1() {
        BellMilk x = new BellMilk();
        for (int i = 0; i < 12; i++) {
            due("pasture(" + i + ", 0)", x.pasture(i, 0), 50);
            due("pasture(" + i + ", 1)", x.pasture(i, 1), 0);
            due("pail(" + i + ")", x.pail(i), 0);
        }
        int[] counts = {0, 0, 0, 0, 0, 0, 1, 0};
        for (int i = 0; i < 8; i++) due("count(" + i + ")", x.count(i), counts[i]);
        due("weather(0, 2)", x.weather(0, 2), 2);
        due("weather(1, 0)", x.weather(1, 0), 0);
        due("of(0, 0)", x.of(0, 0), BEYOND);
        for (int i = 0; i < 10; i++) due("as(" + i + ", 0)", x.as(i, 0), MISSING);
        for (int i = 0; i < 4; i++) due("judge(" + i + ")", x.judge(i), MISSING);
        due("wipe()", x.wipe(), 0);
        due("tear()", x.tear(), 0);
        due("undo()", x.undo(), NONE);
    }

    static void p2() {
        BellMilk x = new BellMilk();
        due("grass(3, 99)", x.grass(3, 99), 50);
        due("grass(3, 0)", x.grass(3, 0), 99);
        due("grass(11, 7)", x.grass(11, 7), 50);
        due("grass(3, 100)", x.grass(3, 100), BEYOND);
        due("grass(3, -1)", x.grass(3, -1), BEYOND);
        due("grass(-1, 5)", x.grass(-1, 5), BEYOND);
        due("grass(12, 5)", x.grass(12, 5), BEYOND);
        due("grass(MOST, LEAST)", x.grass(MOST, LEAST), BEYOND);
        due("pasture(3, 0)", x.pasture(3, 0), 0);
        due("pasture(11, 0)", x.pasture(11, 0), 7);
        due("pasture(2, 0)", x.pasture(2, 0), 50);
        due("status(0)", x.status(0), 5);
    }

    static void p3() {
        BellMilk x = herd("cow on 4;calf on 11;kid on 4;pass on 0;grass 4 31");
        due("pasture(4, 0)", x.pasture(4, 0), 31);
        due("pasture(4, 1)", x.pasture(4, 1), 5);
        due("pasture(11, 1)", x.pasture(11, 1), 2);
        due("pasture(0, 1)", x.pasture(0, 1), 8);
        due("pasture(1, 1)", x.pasture(1, 1), 0);
        due("pasture(1, 2)", x.pasture(1, 2), BEYOND);
        due("pasture(1, -1)", x.pasture(1, -1), BEYOND);
        due("pasture(12, 0)", x.pasture(12, 0), BEYOND);
        due("pasture(-1, 1)", x.pasture(-1, 1), BEYOND);
    }

    static void p4() {
        BellMilk x = new BellMilk();
        due("weather(0, 20)", x.weather(0, 20), 2);
        due("weather(0, 21)", x.weather(0, 21), BEYOND);
        due("weather(0, -1)", x.weather(0, -1), BEYOND);
        due("weather(0, 0)", x.weather(0, 0), 20);
        due("weather(0, 3)", x.weather(0, 3), 0);
        due("weather(1, 99)", x.weather(1, 99), 0);
        due("weather(1, 100)", x.weather(1, 100), BEYOND);
        due("weather(1, -1)", x.weather(1, -1), BEYOND);
        due("weather(1, 21)", x.weather(1, 21), 99);
        due("weather(1, 0)", x.weather(1, 0), 21);
        due("weather(2, 0)", x.weather(2, 0), BEYOND);
        due("weather(-1, 0)", x.weather(-1, 0), BEYOND);
        due("go(1)", x.go(1), 0);
        due("pasture(5, 0)", x.pasture(5, 0), 53);
    }

    static void p5and6() {
        promise = 5;
        // 47 of RUNG stays as it is while MUFFLED: a quarter is 11.
        BellMilk x = herd("cow tone 5 muffled");
        x.change(0, 5, 47);
        due("go(6)", x.go(6), 11);
        due("pail(5)", x.pail(5), 11);
        due("pail(4)", x.pail(4), 0);
        due("pail(12)", x.pail(12), BEYOND);
        due("pail(-1)", x.pail(-1), BEYOND);
        promise = 6;
        due("pour(12)", x.pour(12), BEYOND);
        due("pour(-1)", x.pour(-1), BEYOND);
        due("pour(4)", x.pour(4), 0);
        due("pour(5)", x.pour(5), 11);
        due("pour(5)", x.pour(5), 0);
        due("now(1)", x.now(1), 0);
    }

    static void p7() {
        BellMilk x = new BellMilk();
        due("cow(7, 0)", x.cow(7, 0), BEYOND);
        due("cow(-1, 0)", x.cow(-1, 0), BEYOND);
        due("cow(0, 12)", x.cow(0, 12), BEYOND);
        due("cow(0, -1)", x.cow(0, -1), BEYOND);
        for (int i = 0; i < 8; i++) due("cow " + i, x.cow(i % 7, 11 - i), i);
        due("cow(0, 0)", x.cow(0, 0), FULL);
        due("cow(7, 0)", x.cow(7, 0), BEYOND);
        due("count(1)", x.count(1), 8);
        int[] first = {6, 5, 0, 3, 0, 0, 0};
        for (int w = 0; w < 7; w++) due("of(6, " + w + ")", x.of(6, w), first[w]);
        // Behind undo() a new one begins as at first again.
        x = new BellMilk();
        x.image();
        x.cow(1, 1);
        for (int w = 2; w < 7; w++) x.change(0, w, 1);
        x.undo();
        due("cow(5, 2)", x.cow(5, 2), 0);
        int[] anew = {5, 2, 0, 3, 0, 0, 0};
        for (int w = 0; w < 7; w++) due("of(0, " + w + ")", x.of(0, w), anew[w]);
    }

    static void rings(String herd, int wear, int want) {
        BellMilk x = herd(herd);
        x.change(0, 4, wear);
        due("of(0, 7) of " + herd, x.of(0, 7), want);
    }

    static void p8rings() {
        rings("cow swings 4;grass 0 57", 250, 9);
        rings("calf swings 4;grass 0 57", 250, 4);
        rings("kid swings 4;grass 0 57", 250, 5);
        rings("alto swings 4;grass 0 57", 250, 11);
        rings("bride swings 4;grass 0 57;thunder 99", 250, 11);
        rings("bride swings 4;cow;calf;pass;cow on 1;grass 0 57", 0, 8);
        rings("pass swings 4;cow;calf;pass;cow on 1;grass 0 57;thunder 39", 0, 11);
        rings("cracked swings 4;grass 0 57", 299, 7);
        rings("cracked swings 1;grass 0 9", 999, 0);
        rings("bride swings 0;cow;cow;cow;grass 0 9", 0, 0);
        rings("pass swings 0;cow;cow;cow;grass 0 9;thunder 30", 0, 3);
        rings("cow swings 4 muffled;grass 0 57", 0, 9);
        rings("cow swings 9;grass 0 99", 0, 18);
    }

    static void p8gives() {
        int[] of47 = {11, 5, 16, 13, 18, 5, 5};
        int[] of7 = {1, 0, 1, 0, 5, 0, 0};
        int[] eats = {5, 2, 5, 3, 0, 5, 2};
        BellMilk x = herd("cow;thunder 50");
        for (int k = 0; k < 7; k++) {
            x.change(0, 0, k);
            x.change(0, 5, 47);
            due("of(0, 9) of kind " + k, x.of(0, 9), of47[k]);
            x.change(0, 5, 7);
            due("of(0, 9) of kind " + k, x.of(0, 9), of7[k]);
            due("of(0, 8) of kind " + k, x.of(0, 8), eats[k]);
        }
        x.grass(0, 1);
        due("of(0, 8) with little GRASS", x.of(0, 8), 2);
    }

    static void p8() {
        p8rings();
        p8gives();
        BellMilk x = herd("cow on 2 tone 3;calf on 2 tone 3;alto on 2 tone 4 swings 8 muffled;cow on 3 tone 7;kid on 2 tone 5");
        due("of(0, 10)", x.of(0, 10), 2);
        due("of(1, 10)", x.of(1, 10), 2);
        due("of(2, 10)", x.of(2, 10), 0);
        due("of(3, 10)", x.of(3, 10), -1);
        due("of(4, 10)", x.of(4, 10), 0);
        int[] two = {2, 2, 4, 8, 0, 0, 1};
        for (int w = 0; w < 7; w++) due("of(2, " + w + ")", x.of(2, w), two[w]);
        due("of(2, 11)", x.of(2, 11), BEYOND);
        due("of(2, -1)", x.of(2, -1), BEYOND);
        due("of(5, 0)", x.of(5, 0), BEYOND);
        due("of(-1, 0)", x.of(-1, 0), BEYOND);
    }

    static void p9() {
        BellMilk x = herd("bride on 7 tone 2;cow");
        int[] was = {3, 7, 2, 3, 0, 0, 0};
        int[] most = {6, 11, 11, 9, 999, 9999, 1};
        for (int w = 0; w < 7; w++) {
            due("change(0, " + w + ", most + 1)", x.change(0, w, most[w] + 1), BEYOND);
            due("change(0, " + w + ", -1)", x.change(0, w, -1), BEYOND);
            due("change(0, " + w + ", most)", x.change(0, w, most[w]), was[w]);
            due("of(0, " + w + ")", x.of(0, w), most[w]);
            due("change(0, " + w + ", 0)", x.change(0, w, 0), most[w]);
            due("of(0, " + w + ")", x.of(0, w), 0);
        }
        int[] other = {0, 0, 0, 3, 0, 0, 0};
        for (int w = 0; w < 7; w++) due("of(1, " + w + ")", x.of(1, w), other[w]);
        due("change(0, 7, 0)", x.change(0, 7, 0), BEYOND);
        due("change(0, -1, 0)", x.change(0, -1, 0), BEYOND);
        due("change(2, 0, 0)", x.change(2, 0, 0), BEYOND);
        due("change(-1, 0, 0)", x.change(-1, 0, 0), BEYOND);
        due("change(0, MOST, MOST)", x.change(0, MOST, MOST), BEYOND);
    }

    static void p10grazing() {
        // 8, 7, 7, 7, 6, 6 rung while GRASS is 50, 47, 44, 41, 38, 35.
        BellMilk x = herd("cow");
        int[] rung = {8, 15, 22, 29, 35};
        for (int h = 0; h < 5; h++) {
            due("go(1)", x.go(1), 0);
            due("of(0, 5)", x.of(0, 5), rung[h]);
        }
        due("go(1)", x.go(1), 10);
        due("of(0, 5)", x.of(0, 5), 0);
        due("of(0, 4)", x.of(0, 4), 6);
        due("pasture(0, 0)", x.pasture(0, 0), 32);
        due("pasture(1, 0)", x.pasture(1, 0), 62);
        // The first eats ahead of the second: it rings by 12, the second by 7.
        x = herd("cow;cow;grass 0 12");
        x.go(1);
        due("of(0, 5)", x.of(0, 5), 4);
        due("of(1, 5)", x.of(1, 5), 3);
        due("pasture(0, 0)", x.pasture(0, 0), 4);
        // With 4 of GRASS the first eats all and goes; the second finds none and goes.
        x.go(1);
        due("pasture(0, 1)", x.pasture(0, 1), 0);
        due("pasture(1, 1)", x.pasture(1, 1), 3);
        due("pasture(0, 0)", x.pasture(0, 0), 2);
        due("pasture(1, 0)", x.pasture(1, 0), 54);
    }

    static void p10wandering() {
        // As much GRASS as it eats is enough; one less isn't; behind 11 comes 0.
        BellMilk x = herd("cow on 11;grass 11 5;grows 4");
        x.go(1);
        due("of(0, 1)", x.of(0, 1), 11);
        due("pasture(11, 0)", x.pasture(11, 0), 4);
        x.go(1);
        due("of(0, 1)", x.of(0, 1), 0);
        // A MUFFLED one eats, wanders and wears, but doesn't ring.
        x = herd("calf on 5 muffled;grass 5 1;grows 0");
        x.go(1);
        due("of(0, 1)", x.of(0, 1), 6);
        due("of(0, 4)", x.of(0, 4), 1);
        due("of(0, 5)", x.of(0, 5), 0);
        due("pasture(5, 0)", x.pasture(5, 0), 0);
        // PASS eats nothing, so it never goes.
        x = herd("pass on 5;grass 5 0;grows 0");
        x.go(1);
        due("of(0, 1)", x.of(0, 1), 5);
        // The first has gone when the bride rings: she is alone then.
        x = herd("cow;bride;grass 0 4");
        x.go(1);
        due("of(1, 5)", x.of(1, 5), 5);
        // A bride that comes first still has company.
        x = herd("bride;cow;grass 0 4");
        x.go(1);
        due("of(0, 5)", x.of(0, 5), 4);
    }

    static void p10milking() {
        // 11 given, 3 of it turned (3.3), 8 are left: 2 to the third tone, 6 to its own.
        BellMilk x = herd("cow tone 8 muffled;cow tone 7 muffled;cow tone 7 muffled;thunder 30");
        x.change(0, 5, 47);
        x.change(2, 5, 47);
        due("go(5)", x.go(5), 0);
        due("go(1)", x.go(1), 16);
        due("pail(8)", x.pail(8), 6);
        due("pail(7)", x.pail(7), 6);
        due("pail(3)", x.pail(3), 4);
        due("now(2)", x.now(2), 0);
        // By a TONE of 0 the third is its own.
        x = herd("cow tone 0 muffled;cow tone 7 muffled");
        x.change(1, 5, 47);
        due("go(6)", x.go(6), 11);
        due("pail(7)", x.pail(7), 11);
        // PASS fills without being rung; 99 of THUNDER leave 5 of 5 less 4.
        due("go(6)", herd("pass muffled").go(6), 5);
        due("go(6)", herd("pass muffled;thunder 99").go(6), 1);
        due("go(12)", herd("pass muffled").go(12), 10);
    }

    static void p10most() {
        // RUNG, WEAR, GRASS and PAILS stay at their greatest.
        BellMilk x = herd("cow;grass 0 99;grass 1 98");
        x.change(0, 5, 9998);
        x.change(0, 4, 999);
        x.go(1);
        due("of(0, 5)", x.of(0, 5), 9999);
        due("of(0, 4)", x.of(0, 4), 999);
        due("pasture(0, 0)", x.pasture(0, 0), 96);
        due("pasture(1, 0)", x.pasture(1, 0), 99);
        due("pasture(2, 0)", x.pasture(2, 0), 52);
        x = herd("alto;alto;alto;alto;alto;alto;alto;alto");
        for (int k = 0; k < 4; k++) {
            for (int c = 0; c < 8; c++) x.change(c, 5, 9999);
            x.go(6);
        }
        due("pail(0)", x.pail(0), 99999);
        due("now(1)", x.now(1), 99999);
    }

    static void p10() {
        p10grazing();
        p10wandering();
        p10milking();
        p10most();
        BellMilk x = new BellMilk();
        due("go(0)", x.go(0), BEYOND);
        due("go(61)", x.go(61), BEYOND);
        due("go(-1)", x.go(-1), BEYOND);
        due("go(60)", x.go(60), 0);
        due("now(0)", x.now(0), 60);
        // More calls than are promised, as HOUR can't be brought there in fewer.
        for (int i = 0; i < 1665; i++) x.go(60);
        due("now(0)", x.now(0), 99960);
        due("go(40)", x.go(40), STATE);
        due("go(61)", x.go(61), BEYOND);
        due("storms(20)", x.storms(20), 0);
        due("storms(20)", x.storms(20), STATE);
        due("storms(21)", x.storms(21), BEYOND);
        due("go(18)", x.go(18), 0);
        due("storms(1)", x.storms(1), 0);
        due("now(0)", x.now(0), 99999);
        due("go(1)", x.go(1), STATE);
        due("storms(1)", x.storms(1), STATE);
        // Further on HOUR stays, and no MILKING comes.
        x.cow(4, 0);
        due("ahead(0, 100)", x.ahead(0, 100), 0);
    }

    static void p11() {
        BellMilk x = herd("cow on 2 tone 1 muffled;cow on 2;kid on 9 tone 11 muffled;grass 3 10");
        x.change(0, 5, 40);
        x.change(1, 5, 7);
        x.change(2, 5, 80);
        due("now(0)", x.now(0), 0);
        due("now(1)", x.now(1), 0);
        due("now(2)", x.now(2), 127);
        due("now(3)", x.now(3), 5);
        due("now(4)", x.now(4), 560);
        due("now(5)", x.now(5), 516);
        due("now(6)", x.now(6), 0);
        x.change(1, 6, 1);
        x.go(6);
        // 10 given by 0: 3 to TONE 1 (1 and 0), 7 to 1; 1 by 1: to 0; 10 by 2: to 11.
        due("now(0)", x.now(0), 6);
        due("now(1)", x.now(1), 21);
        due("now(2)", x.now(2), 0);
        due("now(3)", x.now(3), 7);
        due("now(6)", x.now(6), 2051);
        due("now(7)", x.now(7), BEYOND);
        due("now(-1)", x.now(-1), BEYOND);
    }

    static void p12() {
        BellMilk x = herd("cow tone 4");
        due("ahead(4, 0)", x.ahead(4, 0), 0);
        due("ahead(4, 5)", x.ahead(4, 5), 0);
        due("ahead(4, 6)", x.ahead(4, 6), 10);
        due("ahead(3, 100)", x.ahead(3, 100), 0);
        int far = x.ahead(4, 100);
        due("now(0)", x.now(0), 0);
        due("of(0, 4)", x.of(0, 4), 0);
        due("now(4)", x.now(4), 600);
        due("ahead(4, 101)", x.ahead(4, 101), BEYOND);
        due("ahead(4, -1)", x.ahead(4, -1), BEYOND);
        due("ahead(12, 6)", x.ahead(12, 6), BEYOND);
        due("ahead(-1, 6)", x.ahead(-1, 6), BEYOND);
        x.go(60);
        x.go(40);
        due("pail(4) as it was ahead", x.pail(4), far);
    }

    static void p13() {
        BellMilk x = herd("cow on 11;grass 11 9;grows 0");
        due("where(0, 1, 0)", x.where(0, 1, 0), 11);
        due("where(0, 1, 1)", x.where(0, 1, 1), 11);
        due("where(0, 1, 2)", x.where(0, 1, 2), 0);
        due("where(0, 5, 0)", x.where(0, 5, 0), 0);
        due("where(0, 5, 2)", x.where(0, 5, 2), 6);
        due("where(0, 5, 3)", x.where(0, 5, 3), 14);
        due("where(0, 5, 6)", x.where(0, 5, 6), 0);
        // 10 HOURS on each PASTURE of 50, and one more to find it bare.
        due("where(0, 1, 100)", x.where(0, 1, 100), 8);
        due("of(0, 1)", x.of(0, 1), 11);
        int[] others = {-1, 0, 2, 3, 4, 6};
        for (int w : others) due("where(0, " + w + ", 0)", x.where(0, w, 0), BEYOND);
        due("where(0, 1, 101)", x.where(0, 1, 101), BEYOND);
        due("where(0, 1, -1)", x.where(0, 1, -1), BEYOND);
        due("where(1, 1, 0)", x.where(1, 1, 0), BEYOND);
        due("where(-1, 1, 0)", x.where(-1, 1, 0), BEYOND);
    }

    static void p14() {
        BellMilk x = herd("pass tone 2 muffled");
        due("when(2, 0)", x.when(2, 0), 0);
        due("when(2, 1)", x.when(2, 1), 6);
        due("when(2, 5)", x.when(2, 5), 6);
        due("when(2, 6)", x.when(2, 6), 12);
        due("when(2, 165)", x.when(2, 165), 198);
        due("when(2, 166)", x.when(2, 166), NONE);
        due("when(3, 1)", x.when(3, 1), NONE);
        due("when(2, 99999)", x.when(2, 99999), NONE);
        due("when(2, 100000)", x.when(2, 100000), BEYOND);
        due("when(2, -1)", x.when(2, -1), BEYOND);
        due("when(12, 1)", x.when(12, 1), BEYOND);
        due("when(-1, 1)", x.when(-1, 1), BEYOND);
        // From HOUR 4 on the last MILKING is behind 200 HOURS just.
        x.go(3);
        due("when(2, 170)", x.when(2, 170), NONE);
        x.go(1);
        due("when(2, 170)", x.when(2, 170), 200);
        due("when(2, 171)", x.when(2, 171), NONE);
        x.go(2);
        due("when(2, 5)", x.when(2, 5), 0);
        due("now(0)", x.now(0), 6);
    }

    static void p15() {
        BellMilk x = herd("cow on 1;pass on 2;pass on 1;pass on 9;grows 0;grass 1 10");
        due("meet(0, 2)", x.meet(0, 2), 0);
        due("meet(2, 0)", x.meet(2, 0), 0);
        due("meet(0, 1)", x.meet(0, 1), 3);
        due("meet(1, 0)", x.meet(1, 0), 3);
        // PASTURES 2 to 8 take 11 HOURS each.
        due("meet(3, 0)", x.meet(3, 0), 80);
        due("meet(1, 2)", x.meet(1, 2), NONE);
        due("meet(0, 0)", x.meet(0, 0), BEYOND);
        due("meet(0, 4)", x.meet(0, 4), BEYOND);
        due("meet(4, 0)", x.meet(4, 0), BEYOND);
        due("meet(-1, 0)", x.meet(-1, 0), BEYOND);
        due("of(0, 1)", x.of(0, 1), 1);
        // On each with 99 a cow stays 20 HOURS (1 of it too few at the last): 10 PASTURES are 200.
        x = herd("cow on 1;pass on 11;grows 0");
        for (int p = 0; p < 12; p++) x.grass(p, 99);
        due("meet(0, 1)", x.meet(0, 1), 200);
        // One HOUR more on a PASTURE of 4 is one too many.
        x.change(1, 1, 0);
        x.grass(11, 4);
        due("meet(0, 1)", x.meet(0, 1), NONE);
        x.grass(10, 94);
        due("meet(0, 1)", x.meet(0, 1), 200);
    }

    static void p16() {
        BellMilk x = new BellMilk();
        due("bare()", x.bare(), NONE);
        x.grass(7, 0);
        due("bare()", x.bare(), 0);
        x = herd("cow on 3;grows 0");
        due("bare()", x.bare(), 10);
        due("pasture(3, 0)", x.pasture(3, 0), 50);
        x.weather(0, 1);
        due("bare()", x.bare(), NONE);
        due("status(3)", x.status(3), 1);
        // 50 by 2 is 25 HOURS; 99 by 2 is bare at the 50th; nobody waits longer.
        due("bare()", herd("calf;grows 0").bare(), 25);
        due("bare()", herd("kid;grows 0;grass 0 99").bare(), 50);
        due("bare()", herd("pass;grows 0").bare(), NONE);
    }

    static void p17() {
        // 9 (99 of GRASS) are on PASTURE 7 alone, the rest has 50.
        BellMilk x = herd("cow on 2;grass 7 99;grows 0");
        due("graze(0, 6)", x.graze(0, 6), 7);
        due("graze(0, 5)", x.graze(0, 5), 0);
        due("graze(0, 0)", x.graze(0, 0), 0);
        due("of(0, 1)", x.of(0, 1), 2);
        due("graze(0, 41)", x.graze(0, 41), BEYOND);
        due("graze(0, -1)", x.graze(0, -1), BEYOND);
        due("graze(1, 6)", x.graze(1, 6), BEYOND);
        due("graze(-1, 6)", x.graze(-1, 6), BEYOND);
        due("graze(0, 40) is told", x.graze(0, 40) >= 0 ? 1 : 0, 1);
        // A bride is best alone: 0 has another one.
        x = herd("bride;pass muffled");
        due("graze(0, 6)", x.graze(0, 6), 1);
    }

    static void p18() {
        // One MUFFLED beside it with TONE 5: TONE 3 gives all but a third to 3.
        BellMilk x = herd("cow muffled;cow tone 5 muffled");
        x.change(0, 5, 48);
        due("toneFor(0, 3, 6)", x.toneFor(0, 3, 6), 3);
        due("toneFor(0, 3, 5)", x.toneFor(0, 3, 5), 0);
        due("toneFor(0, 5, 6)", x.toneFor(0, 5, 6), 5);
        due("of(0, 2)", x.of(0, 2), 0);
        // The second's third can go where the first one's TONE sends it; alike nothing is parted.
        x.change(0, 5, 0);
        x.change(1, 5, 48);
        due("toneFor(0, 3, 6)", x.toneFor(0, 3, 6), 10);
        due("toneFor(0, 5, 6)", x.toneFor(0, 5, 6), 0);
        due("toneFor(0, 5, 41)", x.toneFor(0, 5, 41), BEYOND);
        due("toneFor(0, 5, -1)", x.toneFor(0, 5, -1), BEYOND);
        due("toneFor(0, 12, 6)", x.toneFor(0, 12, 6), BEYOND);
        due("toneFor(0, -1, 6)", x.toneFor(0, -1, 6), BEYOND);
        due("toneFor(2, 5, 6)", x.toneFor(2, 5, 6), BEYOND);
        due("toneFor(-1, 5, 6)", x.toneFor(-1, 5, 6), BEYOND);
    }

    static void p19() {
        BellMilk x = herd("kid muffled");
        due("kindFor(0, 6)", x.kindFor(0, 6), 4);
        due("kindFor(0, 5)", x.kindFor(0, 5), 0);
        due("of(0, 0)", x.of(0, 0), 6);
        // 9999 of RUNG: ALTO 3748, BRIDE 3745, PASS 3750; THUNDER of 99 leaves 38 by all three.
        x.change(0, 5, 9999);
        due("kindFor(0, 6)", x.kindFor(0, 6), 4);
        x.weather(1, 99);
        due("kindFor(0, 6)", x.kindFor(0, 6), 2);
        due("kindFor(0, 41)", x.kindFor(0, 41), BEYOND);
        due("kindFor(0, -1)", x.kindFor(0, -1), BEYOND);
        due("kindFor(1, 6)", x.kindFor(1, 6), BEYOND);
        due("kindFor(-1, 6)", x.kindFor(-1, 6), BEYOND);
    }

    static void p20() {
        // Without SWINGS 23 are rung by GRASS, 6 more by each.
        BellMilk x = herd("cow tone 9");
        due("swingsFor(0, 0, 6)", x.swingsFor(0, 0, 6), 0);
        due("swingsFor(0, 5, 6)", x.swingsFor(0, 5, 6), 0);
        due("swingsFor(0, 6, 6)", x.swingsFor(0, 6, 6), 1);
        due("swingsFor(0, 10, 6)", x.swingsFor(0, 10, 6), 3);
        due("swingsFor(0, 19, 6)", x.swingsFor(0, 19, 6), 9);
        due("swingsFor(0, 20, 6)", x.swingsFor(0, 20, 6), NONE);
        due("swingsFor(0, 1, 5)", x.swingsFor(0, 1, 5), NONE);
        due("swingsFor(0, 0, 0)", x.swingsFor(0, 0, 0), 0);
        due("of(0, 3)", x.of(0, 3), 3);
        due("swingsFor(0, 9999, 40)", x.swingsFor(0, 9999, 40), NONE);
        due("swingsFor(0, 10000, 6)", x.swingsFor(0, 10000, 6), BEYOND);
        due("swingsFor(0, -1, 6)", x.swingsFor(0, -1, 6), BEYOND);
        due("swingsFor(0, 5, 41)", x.swingsFor(0, 5, 41), BEYOND);
        due("swingsFor(0, 5, -1)", x.swingsFor(0, 5, -1), BEYOND);
        due("swingsFor(1, 5, 6)", x.swingsFor(1, 5, 6), BEYOND);
        due("swingsFor(-1, 5, 6)", x.swingsFor(-1, 5, 6), BEYOND);
    }

    static void p21() {
        BellMilk x = new BellMilk();
        due("growsFor(40)", x.growsFor(40), 0);
        x = herd("cow");
        // With 0 there is enough for 10 HOURS; with 1 it sinks by 4: 12 (50, 46, .. 6, 2 at the 13th).
        due("growsFor(0)", x.growsFor(0), 0);
        due("growsFor(10)", x.growsFor(10), 0);
        due("growsFor(11)", x.growsFor(11), 1);
        due("growsFor(12)", x.growsFor(12), 1);
        due("growsFor(13)", x.growsFor(13), 2);
        // By 3 a HOUR 50 goes to 5 at the 16th; by 2 to 6 at the 23rd, by 1 to 11 at the 40th.
        due("growsFor(16)", x.growsFor(16), 2);
        due("growsFor(17)", x.growsFor(17), 3);
        due("growsFor(23)", x.growsFor(23), 3);
        due("growsFor(24)", x.growsFor(24), 4);
        due("growsFor(40)", x.growsFor(40), 4);
        due("weather(0, 2)", x.weather(0, 2), 2);
        x.grass(0, 4);
        due("growsFor(1)", x.growsFor(1), NONE);
        due("growsFor(0)", x.growsFor(0), 0);
        due("growsFor(41)", x.growsFor(41), BEYOND);
        due("growsFor(-1)", x.growsFor(-1), BEYOND);
        due("growsFor(40)", herd("pass;grass 0 0").growsFor(40), 0);
        due("growsFor(40)", herd("cow;cow;cow;cow;grass 0 20").growsFor(40), 20);
        due("growsFor(40)", herd("cow;cow;cow;cow;calf;grass 0 22").growsFor(40), NONE);
    }

    static void p22() {
        BellMilk x = herd("cow muffled");
        x.change(0, 5, 400);
        due("thunderFor(100, 6)", x.thunderFor(100, 6), 0);
        due("thunderFor(99, 6)", x.thunderFor(99, 6), 1);
        due("thunderFor(55, 6)", x.thunderFor(55, 6), 45);
        due("thunderFor(51, 6)", x.thunderFor(51, 6), 49);
        due("thunderFor(50, 6)", x.thunderFor(50, 6), 50);
        due("thunderFor(1, 6)", x.thunderFor(1, 6), 99);
        due("thunderFor(0, 6)", x.thunderFor(0, 6), 99);
        due("thunderFor(101, 6)", x.thunderFor(101, 6), NONE);
        due("thunderFor(1, 5)", x.thunderFor(1, 5), NONE);
        due("thunderFor(0, 0)", x.thunderFor(0, 0), 99);
        due("weather(1, 0)", x.weather(1, 0), 0);
        due("thunderFor(10000, 6)", x.thunderFor(10000, 6), BEYOND);
        due("thunderFor(-1, 6)", x.thunderFor(-1, 6), BEYOND);
        due("thunderFor(1, 41)", x.thunderFor(1, 41), BEYOND);
        due("thunderFor(1, -1)", x.thunderFor(1, -1), BEYOND);
        // PASS without GRASS and SWINGS: THUNDER makes it ring more, and turns more of it.
        x = herd("pass swings 0;grass 0 0;grows 0");
        due("thunderFor(9, 6)", x.thunderFor(9, 6), thunderByHand(9));
        due("thunderFor(10, 6)", x.thunderFor(10, 6), thunderByHand(10));
        due("thunderFor(8, 6)", x.thunderFor(8, 6), thunderByHand(8));
        due("thunderFor(11, 6)", x.thunderFor(11, 6), thunderByHand(11));
    }

    /** For the lone PASS of p22: the greatest THUNDER that leaves so much, or NONE. */
    static int thunderByHand(int v) {
        for (int t = 99; t >= 0; t--) {
            int rung = 6 * (2 + t / 10);
            int gives = Math.max(0, rung / 4 + rung / 8 - 3) + 5;
            if (gives - gives * t / 100 >= v) return t;
        }
        return NONE;
    }

    static void p23() {
        BellMilk x = herd("cow tone 7;cow tone 7;cow tone 2;cow tone 0;cow tone 5;cow tone 2");
        due("pair(2)", x.pair(2), 19);
        due("pair(9)", x.pair(9), 2);
        due("pair(7)", x.pair(7), 3);
        due("pair(0)", x.pair(0), 4);
        due("pair(5)", x.pair(5), 28);
        due("pair(4)", x.pair(4), NONE);
        due("pair(1)", x.pair(1), NONE);
        due("pair(12)", x.pair(12), BEYOND);
        due("pair(-1)", x.pair(-1), BEYOND);
        due("pair(0)", herd("cow").pair(0), NONE);
        due("pair(5)", herd("cow tone 5").pair(5), NONE);
    }

    static void p24() {
        // Each on its own PASTURE; the alto gives most, the calf least.
        BellMilk x = herd("cow on 0;alto on 2;calf on 4;cow on 6;cow on 8 tone 1");
        due("muffle(0, 9999, 6)", x.muffle(0, 9999, 6), 0);
        int all = x.ahead(0, 6);
        int alto = givenAlone("alto"), cow = givenAlone("cow"), calf = givenAlone("calf");
        due("ahead(0, 6)", all, alto + calf + 2 * cow);
        due("muffle of nothing", x.muffle(0, all, 6), 0);
        due("muffle of a calf", x.muffle(0, all - calf, 6), 1);
        due("muffle of a cow", x.muffle(0, all - cow, 6), 1);
        due("muffle of one more", x.muffle(0, all - cow - 1, 6), 2);
        due("muffle of the alto", x.muffle(0, all - alto, 6), 2);
        due("muffle of alto and cow", x.muffle(0, all - alto - 1, 6), 3);
        due("muffle of all but the calf", x.muffle(0, calf, 6), 11);
        due("muffle(0, 0, 6)", x.muffle(0, 0, 6), 15);
        due("muffle(0, 0, 5)", x.muffle(0, 0, 5), 0);
        due("muffle(1, 0, 6)", x.muffle(1, 0, 6), 16);
        due("now(3)", x.now(3), 0);
        // One that is MUFFLED stays so and needn't be told again.
        x.change(3, 6, 1);
        due("muffle(0, 0, 6)", x.muffle(0, 0, 6), 7);
        // What was rung is given anyway.
        x.change(3, 5, 4);
        due("muffle(0, 0, 6)", x.muffle(0, 0, 6), NONE);
        due("muffle(0, 1, 6)", x.muffle(0, 1, 6), 7);
        due("muffle(0, 0, 19)", x.muffle(0, 0, 19), BEYOND);
        due("muffle(0, 0, -1)", x.muffle(0, 0, -1), BEYOND);
        due("muffle(0, 10000, 6)", x.muffle(0, 10000, 6), BEYOND);
        due("muffle(0, -1, 6)", x.muffle(0, -1, 6), BEYOND);
        due("muffle(12, 0, 6)", x.muffle(12, 0, 6), BEYOND);
        due("muffle(-1, 0, 6)", x.muffle(-1, 0, 6), BEYOND);
        // By thirds: the one beside it lets its milk flow into this PAIL.
        x = herd("cow tone 3;cow tone 4");
        due("muffle(7, 0, 6)", x.muffle(7, 0, 6), 3);
        due("muffle(3, 0, 6)", x.muffle(3, 0, 6), 1);
        muffleOfFullPail();
    }

    static int givenAlone(String kind) {
        return herd(kind).go(6);
    }

    static void muffleOfFullPail() {
        BellMilk x = herd("alto;alto;alto;alto;alto;alto;alto;alto");
        for (int k = 0; k < 4; k++) {
            for (int c = 0; c < 8; c++) x.change(c, 5, 9999);
            x.go(6);
        }
        due("muffle(0, 9999, 0)", x.muffle(0, 9999, 0), NONE);
        due("muffle(0, 9999, 18)", x.muffle(0, 9999, 18), NONE);
        x.pour(0);
        due("muffle(0, 0, 18)", x.muffle(0, 0, 18), 255);
    }

    static void p25() {
        // A cow gives 10, a calf 4, the MUFFLED cow nothing (10 if it weren't), each on its own PASTURE.
        BellMilk x = herd("cow;calf on 3;cow on 6 muffled;cow on 9 tone 4");
        due("fits(0, 0)", x.fits(0, 0), MISSING);
        due("fits(0, 12)", x.fits(0, 12), MISSING);
        due("fits(4, 0)", x.fits(4, 0), BEYOND);
        due("fits(-1, 0)", x.fits(-1, 0), BEYOND);
        int calf = givenAlone("calf");
        sheet(x, 0, 16, 0, 10 + calf);
        due("fits(0, 0)", x.fits(0, 0), 8);
        x.write(0, 1, calf);
        due("fits(0, 0)", x.fits(0, 0), 1);
        x.write(0, 1, 10);
        due("fits(0, 0)", x.fits(0, 0), 2);
        x.write(0, 1, 20 + calf);
        due("fits(0, 0)", x.fits(0, 0), 4);
        x.write(0, 0, -1);
        due("fits(0, 0)", x.fits(0, 0), 4);
        x.write(0, 0, 1);
        due("fits(0, 0)", x.fits(0, 0), 0);
        x.write(0, 0, 0);
        x.write(0, 1, -1);
        due("fits(0, 0)", x.fits(0, 0), 15);
        due("fits(0, 4)", x.fits(0, 4), 15);
        x.write(0, 1, 0);
        due("fits(0, 4)", x.fits(0, 4), 8);
        due("fits(0, 12)", x.fits(0, 12), BEYOND);
        due("fits(0, -1)", x.fits(0, -1), BEYOND);
        due("now(3)", x.now(3), 4);
        due("now(0)", x.now(0), 0);
        // A byte of 255 is -1: any.
        sheet(x, 1, 8, 255, 255, 255);
        due("fits(1, 0)", x.fits(1, 0), 15);
        x.sheet(1, 8, 0);
        due("fits(1, 0)", x.fits(1, 0), 15);
        // Six HOURS further on, whatever HOUR it is.
        BellMilk y = herd("pass muffled;cow on 5 tone 7 muffled");
        y.go(3);
        sheet(y, 2, 32, 0, 5, 10, 15);
        due("fits(2, 0)", y.fits(2, 0), 2);
        y.go(3);
        due("fits(2, 0)", y.fits(2, 0), 0);
        y.pour(0);
        due("fits(2, 0)", y.fits(2, 0), 2);
    }

    static void p26() {
        BellMilk x = herd("cow");
        due("kinds(0, 0)", x.kinds(0, 0), MISSING);
        due("kinds(0, 1)", x.kinds(0, 1), MISSING);
        due("kinds(4, 0)", x.kinds(4, 0), BEYOND);
        due("kinds(-1, 0)", x.kinds(-1, 0), BEYOND);
        // The first HOUR rings COW 8, CALF 4, ALTO 10, BRIDE 10, PASS 10, CRACKED 8, KID 5.
        sheet(x, 0, 16, 0, 8);
        due("kinds(0, 0)", x.kinds(0, 0), 33);
        x.write(0, 1, 4);
        due("kinds(0, 0)", x.kinds(0, 0), 2);
        x.write(0, 1, 5);
        due("kinds(0, 0)", x.kinds(0, 0), 64);
        x.write(0, 1, 10);
        due("kinds(0, 0)", x.kinds(0, 0), 28);
        x.write(0, 1, -1);
        due("kinds(0, 0)", x.kinds(0, 0), 127);
        x.write(0, 0, 1);
        due("kinds(0, 0)", x.kinds(0, 0), 0);
        due("kinds(0, 1)", x.kinds(0, 1), BEYOND);
        due("kinds(0, -1)", x.kinds(0, -1), BEYOND);
        // GRASS behind an HOUR: ALTO 47, BRIDE 49, PASS 52: the second HOUR rings 9, 9 and 10.
        sheet(x, 1, 32, -1, 10, 20);
        due("kinds(1, 0)", x.kinds(1, 0), 16);
        x.write(1, 2, 19);
        due("kinds(1, 0)", x.kinds(1, 0), 12);
        due("of(0, 0)", x.of(0, 0), 0);
        x.sheet(1, 16, 0);
        due("kinds(1, 0)", x.kinds(1, 0), 127);
        // At a MILKING RUNG is 0.
        sheet(x, 2, 8, -1, -1, -1, -1, -1, -1, 0);
        due("kinds(2, 0)", x.kinds(2, 0), 127);
    }

    static void p27() {
        // z: 1, then 1103527590, 2524885223, 662824084, .. each draw is z >>> 8.
        int z1 = 1103515245 + 12345;
        int z2 = z1 * 1103515245 + 12345;
        BellMilk x = herd("cow;cow;cow;cow;cow;cow;cow");
        int struck = (z2 >>> 8) % 8;
        due("storms(1)", x.storms(1), 0);
        due("count(6)", x.count(6), z2);
        due("THUNDER", x.weather(1, 0), (z1 >>> 8) % 100);
        for (int c = 0; c < 7; c++) due("of(" + c + ", 1)", x.of(c, 1), c == struck ? 1 : 0);
        due("now(0)", x.now(0), 1);
        // One that isn't there goes nowhere; the two draws are made.
        x = herd("cow on 11;grows 20");
        for (int v = 0; v < 40; v++) {
            x.change(0, 1, 11);
            x.seed(v);
            int one = v * 1103515245 + 12345;
            int two = one * 1103515245 + 12345;
            x.storms(1);
            due("of(0, 1) by seed " + v, x.of(0, 1), (two >>> 8) % 8 == 0 ? 0 : 11);
            due("weather by seed " + v, x.weather(1, 1), (one >>> 8) % 100);
            due("count(6) by seed " + v, x.count(6), two);
        }
        x = new BellMilk();
        due("storms(0)", x.storms(0), BEYOND);
        due("storms(21)", x.storms(21), BEYOND);
        due("storms(-1)", x.storms(-1), BEYOND);
        due("count(6)", x.count(6), 1);
        due("storms(20)", x.storms(20), 0);
        due("now(0)", x.now(0), 20);
        x = herd("pass muffled");
        int milk = x.storms(6);
        due("milk of a storm", milk, 5 - 5 * x.weather(1, 0) / 100);
    }

    static void p28() {
        BellMilk x = herd("cow;cow;cow;cow;cow;cow");
        due("odds(1, 0)", x.odds(1, 0), 3);
        due("odds(1, 1)", x.odds(1, 1), 4);
        due("odds(18, 0)", x.odds(18, 0), 387420489L);
        due("odds(18, 1)", x.odds(18, 1), 68719476736L);
        due("odds(0, 0)", x.odds(0, 0), 1);
        due("odds(0, 1)", x.odds(0, 1), 1);
        x.change(5, 6, 1);
        due("odds(2, 0)", x.odds(2, 0), 25);
        due("odds(2, 1)", x.odds(2, 1), 64);
        due("odds(18, 1)", x.odds(18, 1), 18014398509481984L);
        x.change(4, 6, 1);
        due("odds(3, 0)", x.odds(3, 0), 1);
        due("odds(3, 1)", x.odds(3, 1), 8);
        due("odds(19, 0)", x.odds(19, 0), -1000001L);
        due("odds(-1, 0)", x.odds(-1, 0), -1000001L);
        due("odds(1, 2)", x.odds(1, 2), -1000001L);
        due("odds(1, -1)", x.odds(1, -1), -1000001L);
        due("status(0)", x.status(0), 4);
        x = new BellMilk();
        due("odds(5, 0)", x.odds(5, 0), 0);
        due("odds(5, 1)", x.odds(5, 1), 1);
        due("odds(0, 0)", x.odds(0, 0), 1);
        due("odds(0, 1)", x.odds(0, 1), 1);
        x = herd("cow;cow;cow;cow;cow;cow;cow;cow");
        due("odds(18, 0)", x.odds(18, 0), 1);
        due("odds(18, 1)", x.odds(18, 1), 1);
        x.change(0, 6, 1);
        due("odds(18, 0)", x.odds(18, 0), 1628413597910449L);
    }

    static void p29() {
        BellMilk x = new BellMilk();
        due("seed(7)", x.seed(7), 1);
        due("seed(BEYOND)", x.seed(BEYOND), 7);
        due("seed(LEAST)", x.seed(LEAST), BEYOND);
        due("count(6)", x.count(6), LEAST);
        due("status(-1)", x.status(-1), 0);
    }

    static void p30and31() {
        promise = 30;
        BellMilk x = new BellMilk();
        due("feed(\"grow\", 4)", x.feed(0x67726f77, 4), 4);
        due("feed(..\"s\", 1)", x.feed(0x67726f73, 1), 5);
        due("feed(..\" 1\", 2)", x.feed(0x7fff2031, 2), 7);
        due("feed(..\"7; \", 3)", x.feed(0xff373b20, 3), 10);
        due("feed(0, 0)", x.feed(0, 0), BEYOND);
        due("feed(0, 5)", x.feed(0, 5), BEYOND);
        due("feed(0, -1)", x.feed(0, -1), BEYOND);
        due("feed(0, LEAST)", x.feed(0, LEAST), BEYOND);
        due("count(5)", x.count(5), 10);
        x.feed(0x6b6964, 3);
        due("text()", x.text(), 2);
        due("weather(0, 0)", x.weather(0, 0), 17);
        for (int i = 1; i <= 29; i++) due("feed " + i, x.feed(0x20202020, 4), 4 * i);
        due("feed(.., 3)", x.feed(0, 3), 119);
        due("feed(.., 2)", x.feed(0, 2), FULL);
        due("feed(.., 4)", x.feed(0, 4), FULL);
        due("feed(.., 5)", x.feed(0, 5), BEYOND);
        due("feed(.., 1)", x.feed(0, 1), 120);
        due("feed(.., 1)", x.feed(0, 1), FULL);
        promise = 31;
        due("wipe()", x.wipe(), 120);
        due("wipe()", x.wipe(), 0);
        due("count(5)", x.count(5), 0);
        due("feed(.., 1)", x.feed(-1, 1), 1);
        due("text()", x.text(), -1);
    }

    static void fault(String text, int place) {
        BellMilk x = new BellMilk();
        due("text of '" + text + "'", text(x, text), -1 - place);
        due("count(5) behind it", x.count(5), 0);
        due("count(1) behind it", x.count(1), 0);
        due("now(4) behind it", x.now(4), 600);
        due("weather(0, 2) behind it", x.weather(0, 2), 2);
        due("weather(1, 0) behind it", x.weather(1, 0), 0);
        due("status(-1) behind it", x.status(-1), 0);
    }

    static void p32faults() {
        fault("", 0);
        fault("   ", 3);
        fault("cow;", 4);
        fault("cow; ", 5);
        fault(";cow", 0);
        fault("cow cow", 4);
        fault("cows", 0);
        fault("cowz", 0);
        fault("dow", 0);
        fault("cox", 0);
        fault("{cow", 0);
        fault("`cow", 0);
        fault("/3", 0);
        fault("cow on :", 7);
        fault("Cow", 0);
        fault("cow on", 6);
        fault("cow on  ", 8);
        fault("cow on 12", 7);
        fault("cow on x", 7);
        fault("cow on tone 3", 7);
        fault("cow on ;", 7);
        fault("cow on 1 on 2", 9);
        fault("cow tone 12", 9);
        fault("cow tone 1 on 2", 11);
        fault("cow swings 10", 11);
        fault("cow swings 1 tone 2", 13);
        fault("cow muffled on 3", 12);
        fault("cow muffled muffled", 12);
        fault("cow 3", 4);
        fault("cow, calf", 3);
        fault("cow\tmuffled", 3);
        fault("grass", 5);
        fault("grass 12 0", 6);
        fault("grass 1", 7);
        fault("grass 1 100", 8);
        fault("grass 1 1000", 8);
        fault("grass 1 4294967297", 8);
        fault("grass 1 5 6", 10);
        fault("grass 1;", 7);
        fault("grows", 5);
        fault("grows 21", 6);
        fault("grows thunder 5", 6);
        fault("grows -1", 6);
        fault("thunder 100", 8);
        fault("thunder grows 5", 8);
        fault("thunder 5 calf", 10);
        fault("thunder 9;grows 3;grass 4 4;cow;x", 32);
        fault("kid;kid;kid;kid;kid;kid;kid;kid; kid", 33);
        fault("kid;kid;kid;kid;kid;kid;kid;kid;kids", 32);
        fault("cow;" + (char) 233, 4);
        fault("cow" + (char) 255, 3);
        fault("on 3", 0);
        fault("muffled", 0);
        fault("7", 0);
    }

    static void p32() {
        p32faults();
        BellMilk x = new BellMilk();
        due("text", text(x, "  cow;calf on3tone 11swings 9muffled ; grass 011 0099;grows 20;thunder 99;pass "), 6);
        int[][] traits = {{0, 0, 0, 3, 0, 0, 0}, {1, 3, 11, 9, 0, 0, 1}, {4, 0, 0, 3, 0, 0, 0}};
        for (int c = 0; c < 3; c++) {
            for (int w = 0; w < 7; w++) due("of(" + c + ", " + w + ")", x.of(c, w), traits[c][w]);
        }
        due("pasture(11, 0)", x.pasture(11, 0), 99);
        due("weather(0, 0)", x.weather(0, 0), 20);
        due("weather(1, 0)", x.weather(1, 0), 99);
        due("count(5)", x.count(5), 0);
        due("text", text(x, "alto;bride muffled;cracked tone 2;kid swings 0;cow"), 5);
        int[] kinds = {0, 1, 4, 2, 3, 5, 6, 0};
        for (int c = 0; c < 8; c++) due("of(" + c + ", 0)", x.of(c, 0), kinds[c]);
        due("of(4, 6)", x.of(4, 6), 1);
        due("of(5, 2)", x.of(5, 2), 2);
        due("of(6, 3)", x.of(6, 3), 0);
        // With eight there is no room for its word, but for the weather.
        due("text", text(x, "grows 3;cow"), -9);
        due("text", text(x, "grows 3;cows"), -9);
        due("weather(0, 1)", x.weather(0, 1), 0);
        due("text", text(x, "grass 0 3;grass 0 4"), 2);
        due("pasture(0, 0)", x.pasture(0, 0), 4);
        due("status(-1)", x.status(-1), 0);
    }

    static void p33and34() {
        promise = 33;
        BellMilk x = herd("cow;calf;alto;bride;pass;cracked;kid");
        due("hold(10, 0)", x.hold(10, 0), BEYOND);
        due("hold(-1, 0)", x.hold(-1, 0), BEYOND);
        due("hold(0, 7)", x.hold(0, 7), BEYOND);
        due("hold(0, -2)", x.hold(0, -2), BEYOND);
        due("count(7)", x.count(7), 0);
        for (int c = 0; c < 7; c++) due("hold(" + (9 - c) + ", " + c + ")", x.hold(9 - c, c), 1);
        due("count(7)", x.count(7), 7);
        due("hold(0, -1)", x.hold(0, -1), 1);
        promise = 34;
        String[] up = {"0", "01", "02", "023", "0234", "05", "016"};
        for (int c = 0; c < 7; c++) {
            for (int k = 0; k < 7; k++) {
                due("as(" + (9 - c) + ", " + k + ")", x.as(9 - c, k), up[c].indexOf('0' + k) >= 0 ? c : KIND);
            }
        }
        due("as(0, 0)", x.as(0, 0), MISSING);
        due("as(0, 7)", x.as(0, 7), BEYOND);
        due("as(9, 7)", x.as(9, 7), BEYOND);
        due("as(9, -1)", x.as(9, -1), BEYOND);
        due("as(10, 0)", x.as(10, 0), BEYOND);
        due("as(-1, 0)", x.as(-1, 0), BEYOND);
        x.change(0, 0, 4);
        due("as(9, 3)", x.as(9, 3), 0);
        x.hold(9, -1);
        due("as(9, 3)", x.as(9, 3), MISSING);
        x.hold(8, 2);
        due("as(8, 2)", x.as(8, 2), 2);
    }

    static void p35() {
        BellMilk x = new BellMilk();
        due("sheet(4, 8, 1)", x.sheet(4, 8, 1), BEYOND);
        due("sheet(-1, 8, 1)", x.sheet(-1, 8, 1), BEYOND);
        due("sheet(0, 9, 1)", x.sheet(0, 9, 1), BEYOND);
        due("sheet(0, 64, 1)", x.sheet(0, 64, 1), BEYOND);
        due("sheet(0, -8, 1)", x.sheet(0, -8, 1), BEYOND);
        due("sheet(0, 9, -1)", x.sheet(0, 9, -1), BEYOND);
        due("sheet(0, 8, -1)", x.sheet(0, 8, -1), SIZE);
        due("sheet(0, 0, -1)", x.sheet(0, 0, -1), SIZE);
        due("sheet(0, 8, LEAST)", x.sheet(0, 8, LEAST), SIZE);
        due("sheet(0, 8, 41)", x.sheet(0, 8, 41), BEYOND);
        due("judge(0)", x.judge(0), MISSING);
        due("sheet(0, 8, 40)", x.sheet(0, 8, 40), 40);
        due("judge(0)", x.judge(0), 13);
        due("write(0, 39, 1)", x.write(0, 39, 1), 1);
        due("sheet(0, 32, 12)", x.sheet(0, 32, 12), 12);
        due("judge(0)", x.judge(0), 0);
        due("write(0, 5, 1)", x.write(0, 5, 1), 1);
        due("sheet(0, 32, 12)", x.sheet(0, 32, 12), 12);
        due("judge(0)", x.judge(0), 0);
        due("sheet(0, 0, -1)", x.sheet(0, 0, -1), SIZE);
        due("sheet(0, 32, 41)", x.sheet(0, 32, 41), BEYOND);
        due("judge(0)", x.judge(0), 0);
        due("sheet(0, 0, 12)", x.sheet(0, 0, 12), 0);
        due("judge(0)", x.judge(0), MISSING);
        due("sheet(3, 16, 0)", x.sheet(3, 16, 0), 0);
        due("judge(3)", x.judge(3), 0);
        due("status(6)", x.status(6), 4);
    }

    static void p36() {
        BellMilk x = new BellMilk();
        due("write(4, 0, 0)", x.write(4, 0, 0), BEYOND);
        due("write(-1, 0, 0)", x.write(-1, 0, 0), BEYOND);
        due("write(0, 0, 0)", x.write(0, 0, 0), MISSING);
        due("write(0, 99, 0)", x.write(0, 99, 0), MISSING);
        x.sheet(0, 8, 3);
        due("write(0, 3, 0)", x.write(0, 3, 0), BEYOND);
        due("write(0, -1, 0)", x.write(0, -1, 0), BEYOND);
        due("write(0, 0, 256 + 77)", x.write(0, 0, 256 + 77), 1);
        due("write(0, 1, -256)", x.write(0, 1, -256), 1);
        due("write(0, 2, 200)", x.write(0, 2, 200), 1);
        due("load(0)", x.load(0), 2);
        due("pasture(0, 0)", x.pasture(0, 0), 77);
        due("pasture(1, 0)", x.pasture(1, 0), 0);
        x.sheet(0, 16, 2);
        x.write(0, 0, 65536 + 12);
        x.write(0, 1, 256 + 13);
        due("load(0)", x.load(0), 1);
        due("pasture(0, 0)", x.pasture(0, 0), 12);
        x.sheet(0, 32, 2);
        x.write(0, 0, 65536 + 12);
        due("load(0)", x.load(0), 0);
        // 65535 in 16 bits is -1, in 32 it isn't: any, or not.
        x.cow(0, 0);
        sheet(x, 1, 16, 65535);
        due("kinds(1, 0)", x.kinds(1, 0), 127);
        sheet(x, 1, 32, 65535);
        due("kinds(1, 0)", x.kinds(1, 0), 0);
        sheet(x, 1, 32, -1);
        due("kinds(1, 0)", x.kinds(1, 0), 127);
    }

    static void p37() {
        BellMilk x = new BellMilk();
        due("copy(4, 0, 0, 0, 0)", x.copy(4, 0, 0, 0, 0), BEYOND);
        due("copy(0, 0, -1, 0, 0)", x.copy(0, 0, -1, 0, 0), BEYOND);
        due("copy(0, 0, 1, 0, 0)", x.copy(0, 0, 1, 0, 0), MISSING);
        sheet(x, 0, 16, 10, 11, 12, 13, 14);
        due("copy(0, 0, 1, 0, 0)", x.copy(0, 0, 1, 0, 0), MISSING);
        due("copy(1, 0, 0, 0, 0)", x.copy(1, 0, 0, 0, 0), MISSING);
        due("copy(1, 0, 4, 0, 0)", x.copy(1, 0, 4, 0, 0), BEYOND);
        x.sheet(1, 8, 5);
        due("copy(0, 0, 1, 0, 9)", x.copy(0, 0, 1, 0, 9), KIND);
        x.sheet(1, 16, 4);
        due("copy(0, 1, 1, 0, 4)", x.copy(0, 1, 1, 0, 4), 4);
        due("load(1)", x.load(1), 4);
        for (int p = 0; p < 4; p++) due("pasture(" + p + ", 0)", x.pasture(p, 0), 11 + p);
        due("copy(0, 2, 1, 0, 4)", x.copy(0, 2, 1, 0, 4), BEYOND);
        due("copy(0, 0, 1, 1, 4)", x.copy(0, 0, 1, 1, 4), BEYOND);
        due("copy(0, -1, 1, 0, 1)", x.copy(0, -1, 1, 0, 1), BEYOND);
        due("copy(0, 0, 1, -1, 1)", x.copy(0, 0, 1, -1, 1), BEYOND);
        due("copy(0, 0, 1, 0, -1)", x.copy(0, 0, 1, 0, -1), BEYOND);
        due("copy(0, MOST, 1, 0, MOST)", x.copy(0, MOST, 1, 0, MOST), BEYOND);
        due("copy(0, MOST, 1, MOST, 1)", x.copy(0, MOST, 1, MOST, 1), BEYOND);
        due("copy(0, 1, 1, 1, MOST)", x.copy(0, 1, 1, 1, MOST), BEYOND);
        due("copy(0, LEAST, 1, LEAST, LEAST)", x.copy(0, LEAST, 1, LEAST, LEAST), BEYOND);
        due("copy(0, 5, 1, 4, 0)", x.copy(0, 5, 1, 4, 0), 0);
        due("copy(0, 6, 1, 0, 0)", x.copy(0, 6, 1, 0, 0), BEYOND);
        // Onto itself, either way: as they all were.
        due("copy(0, 0, 0, 1, 4)", x.copy(0, 0, 0, 1, 4), 4);
        due("load(0)", x.load(0), 5);
        int[] up = {10, 10, 11, 12, 13};
        for (int p = 0; p < 5; p++) due("pasture(" + p + ", 0)", x.pasture(p, 0), up[p]);
        due("copy(0, 2, 0, 0, 3)", x.copy(0, 2, 0, 0, 3), 3);
        due("load(0)", x.load(0), 5);
        int[] down = {11, 12, 13, 12, 13};
        for (int p = 0; p < 5; p++) due("pasture(" + p + ", 0)", x.pasture(p, 0), down[p]);
    }

    static void p38() {
        BellMilk x = new BellMilk();
        due("load(4)", x.load(4), BEYOND);
        due("load(-1)", x.load(-1), BEYOND);
        due("load(0)", x.load(0), MISSING);
        sheet(x, 0, 8, 0, 99, 100, 5);
        due("load(0)", x.load(0), 2);
        int[] grass = {0, 99, 50, 50};
        for (int p = 0; p < 4; p++) due("pasture(" + p + ", 0)", x.pasture(p, 0), grass[p]);
        sheet(x, 0, 8, 1, -1, 2);
        due("load(0)", x.load(0), 1);
        due("pasture(1, 0)", x.pasture(1, 0), 99);
        x.sheet(0, 16, 0);
        due("load(0)", x.load(0), 0);
        sheet(x, 0, 32, 1, 2, 3, 4, 5, 6, 7, 8, 9, 10, 11, 12, 13, 14);
        due("load(0)", x.load(0), 12);
        due("now(4)", x.now(4), 78);
    }

    static void p39() {
        BellMilk x = herd("pass muffled;cow on 3 tone 11 muffled");
        x.change(1, 5, 1200);
        x.go(6);
        due("judge(4)", x.judge(4), BEYOND);
        due("judge(-1)", x.judge(-1), BEYOND);
        due("judge(0)", x.judge(0), MISSING);
        sheet(x, 0, 16, 5, 0, 0, 0, 0, 0, 0, 0, 0, 0, 0, 300);
        due("judge(0)", x.judge(0), 0);
        x.write(0, 11, 44);
        due("judge(0)", x.judge(0), 12);
        x.write(0, 0, -1);
        due("judge(0)", x.judge(0), 1);
        sheet(x, 1, 8, 5, 0, 0, 0, 0, 0, 0, 0, 0, 0, 0, 300);
        due("judge(1)", x.judge(1), 12);
        sheet(x, 2, 32, 5, 0, 0, 0, 0, 0, 0, 0, 0, 0, 0, 300, 0);
        due("judge(2)", x.judge(2), 13);
        sheet(x, 2, 32, 5, 1, 1);
        due("judge(2)", x.judge(2), 2);
        x.sheet(2, 8, 0);
        due("judge(2)", x.judge(2), 0);
    }

    static void p40to42() {
        promise = 40;
        BellMilk x = herd("cow on 2 tone 3 swings 4 muffled;grass 1 11;grows 7;thunder 8");
        x.change(0, 5, 47);
        x.change(0, 4, 123);
        x.go(6);
        x.change(0, 5, 9);
        x.seed(99);
        x.hold(4, 0);
        int grass = x.now(4);
        due("image()", x.image(), 1);
        feed(x, "abc");
        x.sheet(1, 8, 2);
        text(x, "");
        feed(x, "abcd");
        x.cow(1, 1);
        x.hold(4, 1);
        x.hold(5, 0);
        for (int w = 0; w < 7; w++) x.change(0, w, w == 6 ? 0 : 1);
        x.weather(0, 1);
        x.weather(1, 1);
        x.pour(3);
        x.grass(1, 1);
        x.storms(7);
        x.pail(12);
        promise = 41;
        due("undo()", x.undo(), 6);
        int[] traits = {0, 2, 3, 4, 129, 9, 1};
        for (int w = 0; w < 7; w++) due("of(0, " + w + ")", x.of(0, w), traits[w]);
        int[] counts = {6, 1, 1, 9, 11, 4, 99, 1};
        for (int w = 0; w < 8; w++) due("count(" + w + ")", x.count(w), counts[w]);
        due("pail(3)", x.pail(3), 11);
        due("now(4)", x.now(4), grass);
        due("weather(0, 3)", x.weather(0, 3), 7);
        due("weather(1, 3)", x.weather(1, 3), 8);
        due("as(4, 0)", x.as(4, 0), 0);
        due("as(5, 0)", x.as(5, 0), MISSING);
        due("judge(1) of a sheet that stays", x.judge(1), 0);
        due("status(0)", x.status(0), 1);
        // It stays: once more, and again behind later images.
        due("undo()", x.undo(), 6);
        due("weather(0, 3)", x.weather(0, 3), 7);
        x.go(1);
        due("image()", x.image(), 1);
        x.go(1);
        due("undo()", x.undo(), 7);
        due("undo()", x.undo(), 7);
        promise = 42;
        due("tear()", x.tear(), 1);
        due("tear()", x.tear(), 0);
        due("undo()", x.undo(), NONE);
        due("now(0)", x.now(0), 7);
        due("image()", x.image(), 1);
        due("undo()", x.undo(), 7);
    }

    static void p43() {
        BellMilk x = herd("cow muffled;calf;kid muffled");
        x.change(0, 5, 47);
        x.change(2, 5, 16);
        x.change(1, 6, 1);
        x.go(6);
        x.change(1, 5, 30);
        x.change(1, 6, 0);
        x.seed(-5);
        x.hold(0, 2);
        x.hold(9, 2);
        x.feed(0, 3);
        int[] counts = {6, 3, 2, 30, 13, 3, -5, 2};
        for (int w = 0; w < 8; w++) due("count(" + w + ")", x.count(w), counts[w]);
        due("count(8)", x.count(8), BEYOND);
        due("count(-1)", x.count(-1), BEYOND);
        due("count(MOST)", x.count(MOST), BEYOND);
    }

    static void p44() {
        BellMilk x = new BellMilk();
        for (int w = -1; w < 7; w++) due("status(" + w + ")", x.status(w), 0);
        x.image();
        for (int i = 0; i < 8; i++) x.cow(0, 0);
        x.cow(0, 0);
        x.cow(0, 0);
        x.hold(0, 0);
        x.as(0, 4);
        x.as(0, 4);
        x.as(0, 4);
        for (int i = 0; i < 4; i++) x.when(1, 1);
        for (int i = 0; i < 6; i++) x.judge(2);
        for (int i = 0; i < 7; i++) x.sheet(0, 8, -1);
        x.pail(99);
        text(x, "x");
        int[] told = {1, 2, 3, 4, 0, 6, 7};
        x.undo();
        for (int w = 0; w < 7; w++) due("status(" + w + ")", x.status(w), told[w]);
        due("status(-1)", x.status(-1), 23);
        due("status(7)", x.status(7), BEYOND);
        due("status(0)", x.status(0), 2);
        due("status(-2)", x.status(-2), BEYOND);
        due("status(LEAST)", x.status(LEAST), BEYOND);
        due("status(0)", x.status(0), 4);
        due("status(-1)", x.status(-1), 26);
    }

    public static void main(String[] args) {
        promise = 1; p1();
        promise = 2; p2();
        promise = 3; p3();
        promise = 4; p4();
        p5and6();
        promise = 7; p7();
        promise = 8; p8();
        promise = 9; p9();
        promise = 10; p10();
        promise = 11; p11();
        promise = 12; p12();
        promise = 13; p13();
        promise = 14; p14();
        promise = 15; p15();
        promise = 16; p16();
        promise = 17; p17();
        promise = 18; p18();
        promise = 19; p19();
        promise = 20; p20();
        promise = 21; p21();
        promise = 22; p22();
        promise = 23; p23();
        promise = 24; p24();
        promise = 25; p25();
        promise = 26; p26();
        promise = 27; p27();
        promise = 28; p28();
        promise = 29; p29();
        p30and31();
        promise = 32; p32();
        p33and34();
        promise = 35; p35();
        promise = 36; p36();
        promise = 37; p37();
        promise = 38; p38();
        promise = 39; p39();
        p40to42();
        promise = 43; p43();
        promise = 44; p44();
        System.out.println(wrong == 0 ? "all answers are as due" : wrong + " answers are not as due");
        if (wrong != 0) System.exit(1);
    }
}
