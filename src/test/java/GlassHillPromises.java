/**
 * Each promise by hand: ordinary calls, the edges that the document names, and the refusals and
 * faults of each call's own line, in the order in which it tells them.
 */
public final class GlassHillPromises {
    private static final int MANY = Integer.MAX_VALUE, FEW = Integer.MIN_VALUE;
    private static final int BYTES = 0, SHORTS = 1, INTS = 2;
    private static final int NULL = -11, CAST = -12, INDEX = -13, SIZE = -14;
    private static final int RAIN = 5;

    private static int wrong = 0;
    private static String promise = "";

    public static void main(String[] args) {
        newObject();
        hillTexts();
        hillFirstFaults();
        hillRefusals();
        hillMakesAnew();
        ofPace();
        ofRider();
        scratch();
        speed();
        shoe();
        takes();
        daysAnswers();
        daysSliding();
        daysRefusals();
        fewest();
        sand();
        game();
        worth();
        reading();
        back();
        speeds();
        nails();
        slicks();
        kinds();
        seenRefusals();
        odds();
        oddsRefusals();
        sheet();
        lose();
        put();
        cell();
        copy();
        tell();
        cheer();
        as();
        trace();
        fault();
        many();
        mostOfAll();
        System.out.println(wrong == 0 ? "all promises are kept" : wrong + " answers are not as due");
        if (wrong != 0) {
            System.exit(1);
        }
    }

    private static void due(String call, long got, long want) {
        if (got != want) {
            wrong++;
            System.out.println(promise + ": " + call + " answered " + got + ", due is " + want);
        }
    }

    private static void write(GlassHill x, int k, int lane, int... row) {
        x.sheet(k, lane, row.length);
        for (int i = 0; i < row.length; i++) {
            x.put(k, i, row[i]);
        }
    }

    private static int build(GlassHill x, String text) {
        write(x, 0, BYTES, text.chars().toArray());
        return x.hill(0, BYTES, 0, text.length());
    }

    private static GlassHill built(String text) {
        GlassHill x = new GlassHill();
        due("hill " + text, build(x, text), (text.length() - 2 - (text.charAt(1) - '0')) / 5);
        return x;
    }

    /** Steps on sheet 1 behind one cell more, so that a call that forgets i is seen. */
    private static int step(GlassHill x, int... steps) {
        int[] row = new int[steps.length + 1];
        row[0] = 77;
        System.arraycopy(steps, 0, row, 1, steps.length);
        write(x, 1, INTS, row);
        return steps.length;
    }

    private static int days(GlassHill x, int what, int... steps) {
        return x.days(1, INTS, 1, step(x, steps), what);
    }

    private static void newObject() {
        promise = "1 new";
        GlassHill x = new GlassHill();
        due("many 0", x.many(0), 0);
        due("many 1", x.many(1), 0);
        due("many 2", x.many(2), 0);
        due("trace", x.trace(), 0);
        due("fault", x.fault(), 0);
        due("ofPace", x.ofPace(0, 0), -1);
        due("ofRider", x.ofRider(0, 0), -1);
        for (int k = 0; k < 4; k++) {
            due("lose " + k, x.lose(k), 0);
            due("put " + k, x.put(k, 0, 0), NULL);
        }
        GlassHill y = new GlassHill();
        build(x, "a23512345");
        due("another object", y.many(1), 0);
    }

    private static void hillTexts() {
        promise = "2 hill";
        GlassHill x = built("a209,r123");
        due("paces", x.many(1), 2);
        due("slick 0", x.ofPace(0, 0), 0);
        due("slick 1", x.ofPace(1, 0), 9);
        due("speed", x.ofRider(0, 1), 12);
        due("nails", x.ofRider(0, 2), 3);
        x = built("a812345678,r000,n999,l101,r010,n505");
        due("riders", x.many(0), 5);
        due("paces", x.many(1), 8);
        due("last pace", x.ofPace(7, 0), 8);
        due("kind 1", x.ofRider(1, 0), 1);
        due("kind 2", x.ofRider(2, 0), 2);
        due("speed 3", x.ofRider(3, 1), 1);
        due("nails 4", x.ofRider(4, 2), 5);
        for (int lane = BYTES; lane <= INTS; lane++) {
            write(x, 2, lane, 1, 2, 'a', '2', '4', '5', ',', 'n', '0', '7', '8', 3);
            due("from 2 on", x.hill(2, lane, 2, 9), 1);
            due("its speed", x.ofRider(0, 1), 7);
        }
    }

    private static void hillFirstFaults() {
        promise = "2 hill, first fault";
        GlassHill x = built("a245,r071");
        String whole = "a234,r123,n456,l789,r000,n999";
        for (int n = 0; n < whole.length(); n++) {
            int codes = n - 4;
            if (codes <= 0 || codes % 5 != 0) {
                due("just ends at " + n, build(x, whole.substring(0, n)), -100 - n);
            }
        }
        x = built("a245,r071");
        String[] texts = {"b234,r123", "a134,r123", "a934,r123", "a23,,r123", "a2345r123",
            "a234;r123", "a234,x123", "a234,R123", "a234,r/23", "a234,r1:3", "a234,r12r",
            "a234,r123r", "a234,r1234", "a234,r123,,", "aa", "1", "a2a", "a234,r123,r12,"};
        int[] places = {0, 1, 1, 3, 4, 4, 5, 5, 6, 7, 8, 9, 9, 10, 1, 0, 2, 13};
        for (int t = 0; t < texts.length; t++) {
            due(texts[t], build(x, texts[t]), -100 - places[t]);
        }
        due("a sixth rider", build(x, whole + ",r123"), -129);
        due("a code behind five", build(x, whole + "0"), -129);
        due("fault of a first fault", x.fault(), 0);
        due("what was is kept", x.ofRider(0, 1), 7);
        write(x, 2, INTS, 'a' + 256, '2', '3', '4', ',', 'r', '1', '2', '3');
        due("an int is no byte", x.hill(2, INTS, 0, 9), -100);
        write(x, 2, INTS, 'a', '2', -3, '4', ',', 'r', '1', '2', '3');
        due("below 0", x.hill(2, INTS, 0, 9), -102);
    }

    private static void hillRefusals() {
        promise = "2 hill, refusals";
        GlassHill x = built("a245,r071");
        due("sheet -1", x.hill(-1, 9, 0, -1), -1);
        due("sheet 4", x.hill(4, 0, 0, 9), -1);
        due("lane -1", x.hill(1, -1, 0, -1), -2);
        due("lane 3", x.hill(0, 3, 0, 9), -2);
        due("fault of a refused one", x.fault(), 0);
        due("another lane", x.hill(0, SHORTS, -1, -1), CAST);
        due("its fault", x.fault(), 2);
        due("nothing", x.hill(1, SHORTS, -1, -1), NULL);
        due("its fault", x.fault(), 1);
        due("n -1", x.hill(0, BYTES, -1, -1), SIZE);
        due("its fault", x.fault(), 4);
        due("i -1", x.hill(0, BYTES, -1, 3), INDEX);
        due("its fault", x.fault(), 3);
        due("n 10", x.hill(0, BYTES, 0, 10), INDEX);
        due("i 1", x.hill(0, BYTES, 1, 9), INDEX);
        due("i 10, none taken", x.hill(0, BYTES, 10, 0), INDEX);
        due("i -1, none taken", x.hill(0, BYTES, -1, 0), INDEX);
        due("i 9, none taken", x.hill(0, BYTES, 9, 0), -100);
        due("n most", x.hill(0, BYTES, 1, MANY), INDEX);
        due("i most", x.hill(0, BYTES, MANY, MANY), INDEX);
        due("n least", x.hill(0, BYTES, 0, FEW), SIZE);
        due("what was is kept", x.many(0), 1);
    }

    private static void hillMakesAnew() {
        promise = "2 hill, all anew";
        GlassHill x = built("a299,r999,r999");
        x.scratch(0, 4);
        x.scratch(1, 5);
        x.speed(0, 3);
        x.reading(0, 1);
        x.tell(0);
        write(x, 3, INTS, 12345);
        due("a text with a fault", build(x, "a"), -101);
        due("readings stay", x.many(2), 1);
        due("scratches stay", x.ofPace(0, 1), 4);
        due("speed stays", x.ofRider(0, 1), 3);
        due("hill", build(x, "a299,r999"), 1);
        due("no readings", x.many(2), 0);
        due("no scratches", x.ofPace(0, 1), 0);
        due("no scratches", x.ofPace(1, 1), 0);
        due("speed anew", x.ofRider(0, 1), 99);
        due("a rider less", x.ofRider(1, 1), -1);
        due("trace stays", x.trace(), 1);
        due("sheets stay", x.cell(3, 0, INTS), 12345);
    }

    private static void ofPace() {
        promise = "3 ofPace";
        GlassHill x = built("a379" + "1,r999");
        x.scratch(1, 6);
        due("slick", x.ofPace(1, 0), 9);
        due("scratches", x.ofPace(1, 1), 6);
        due("slick stays", x.ofPace(2, 0), 1);
        due("none laid", x.ofPace(2, 1), 0);
        due("p -1", x.ofPace(-1, 5), -1);
        due("p 3", x.ofPace(3, 0), -1);
        due("what -1", x.ofPace(0, -1), -2);
        due("what 2", x.ofPace(0, 2), -2);
    }

    private static void ofRider() {
        promise = "4 ofRider";
        GlassHill x = built("a255,r012,n345,l678");
        for (int r = 0; r < 3; r++) {
            due("kind " + r, x.ofRider(r, 0), r);
            due("speed " + r, x.ofRider(r, 1), 1 + 33 * r);
            due("nails " + r, x.ofRider(r, 2), 2 + 3 * r);
        }
        due("r -1", x.ofRider(-1, 5), -1);
        due("r 3", x.ofRider(3, 0), -1);
        due("what -1", x.ofRider(0, -1), -2);
        due("what 3", x.ofRider(0, 3), -2);
    }

    private static void scratch() {
        promise = "5 scratch";
        GlassHill x = built("a255,r100");
        due("had none", x.scratch(1, 9), 0);
        due("had 9", x.scratch(1, 0), 9);
        due("had 0", x.scratch(1, 3), 0);
        due("v -1", x.scratch(1, -1), -2);
        due("v 10", x.scratch(1, 10), -2);
        due("p 2", x.scratch(2, 10), -1);
        due("p -1", x.scratch(-1, 0), -1);
        due("kept", x.ofPace(1, 1), 3);
        due("the other pace", x.ofPace(0, 1), 0);
        due("what it takes", x.worth(0), 100);
        due("days by it", days(x, 11), 3);
    }

    private static void speed() {
        promise = "6 speed";
        GlassHill x = built("a255,r090,r110");
        due("not up", days(x, 0, 0), 0);
        due("was", x.speed(0, 10), 9);
        due("up", days(x, 0, 0), 1);
        due("most", x.speed(0, 99), 10);
        due("least", x.speed(0, 0), 99);
        due("v -1", x.speed(0, -1), -2);
        due("v 100", x.speed(0, 100), -2);
        due("r 2", x.speed(2, 100), -1);
        due("r -1", x.speed(-1, 0), -1);
        due("kept", x.ofRider(0, 1), 0);
        due("the other", x.ofRider(1, 1), 11);
    }

    private static void shoe() {
        promise = "7 shoe";
        GlassHill x = built("a255,r080,r112");
        due("not up", days(x, 0, 0), 0);
        due("was", x.shoe(0, 1), 0);
        due("up", days(x, 0, 0), 1);
        due("most", x.shoe(0, 9), 1);
        due("least", x.shoe(0, 0), 9);
        due("v -1", x.shoe(0, -1), -2);
        due("v 10", x.shoe(0, 10), -2);
        due("r 2", x.shoe(2, 10), -1);
        due("r -1", x.shoe(-1, 0), -1);
        due("kept", x.ofRider(0, 2), 0);
        due("the other", x.ofRider(1, 2), 2);
    }

    private static void takes() {
        promise = "8 takes";
        GlassHill x = built("a290,r501,n501,l501");
        x.scratch(0, 9);
        int[] offs = {0, 1, 0};
        for (int r = 0; r < 3; r++) {
            for (int s = 0; s <= 9; s++) {
                due("rider " + r + ", " + s, x.takes(r, 0, s), Math.max(0, 9 - s - 1 - offs[r]));
                due("slick 0", x.takes(r, 1, s), 0);
            }
        }
        due("r 3", x.takes(3, 0, 10), -1);
        due("r -1", x.takes(-1, 0, 0), -1);
        due("p 2", x.takes(0, 2, 10), -1);
        due("p -1", x.takes(0, -1, 0), -1);
        due("10", x.takes(0, 0, 10), -2);
        due("-1", x.takes(0, 0, -1), -2);
    }

    private static void daysAnswers() {
        promise = "9 days";
        GlassHill x = built("a322" + "2,r050,l040,r060");
        x.scratch(2, 1);
        due("none: up", days(x, 0), 0);
        due("none: wrong", days(x, 1), -9);
        due("none: first up", days(x, 2), -9);
        due("none: scratches", days(x, 12), 1);
        due("none: height", days(x, 20), -9);
        // Rider 1 comes up two paces for 4 and slides: 2 scratches each; then all take 0.
        due("height 1", days(x, 21, 1), 2);
        due("scratches 0", days(x, 10, 1), 2);
        due("scratches 2", days(x, 12, 1), 1);
        due("height 0 untried", days(x, 20, 1), -9);
        due("up", days(x, 0, 1, 0, RAIN, 2), 5);
        due("first up", days(x, 2, 1, RAIN, 2, 0), 2);
        due("first up at once", days(x, 2, 2, 1), 0);
        due("height of one up", days(x, 22, 1, 2), 3);
        due("nothing scratched by one up", days(x, 10, 1, 2), 2);
        due("rain", days(x, 10, 1, RAIN), 1);
        due("rain at least 0", days(x, 12, RAIN, RAIN, RAIN), 0);
        due("no such pace", days(x, 13, 1), -9);
        due("no such pace", days(x, 17, 1), -9);
        due("no such rider", days(x, 23, 1), -9);
        due("no such rider", days(x, 24, 1), -9);
        due("first wrong", days(x, 1, 2, RAIN, 2, 2), 2);
        for (int what : new int[] {0, 2, 10, 17, 20, 24}) {
            due("first wrong, what " + what, days(x, what, 2, RAIN, 2, 2), -102);
        }
        due("what is laid stays", x.ofPace(2, 1), 1);
        due("days begin anew", days(x, 10), 0);
    }

    private static void daysSliding() {
        promise = "9 days, tries";
        GlassHill x = built("a299,r090,n080,l090");
        // A rider takes 9 for the first pace, then his speed is 1 less for each try ahead.
        due("height", days(x, 20, 0), 1);
        due("slower, but scratched", days(x, 20, 0, 0), 1);
        due("slower", days(x, 20, 0, RAIN, 0), 0);
        due("rider's scratch", days(x, 10, 0), 1);
        due("night's scratch", days(x, 10, 1), 1);
        due("lad's scratches", days(x, 10, 2), 2);
        due("not higher", days(x, 11, 2), 0);
        due("last try", days(x, 20, 0, RAIN, 0, RAIN, 0), 0);
        x = built("a209,l020");
        due("9 at most", days(x, 10, 0, 0, 0, 0, 0), 9);
        x.scratch(0, 8);
        due("9 at most of 8", days(x, 10, 0), 9);
        due("8 of 9 by rain", days(x, 10, 0, RAIN), 8);
        x = built("a201,r010");
        x.speed(0, 0);
        due("0 at least", days(x, 20, 0, 0, 0), 1);
        due("a pace that takes 0", days(x, 10, 0, 0, 0), 3);
        x = built("a255,r100");
        due("takes no more than he has", days(x, 0, 0), 1);
        x.speed(0, 9);
        due("has 1 too little", days(x, 20, 0), 1);
        x = built("a212,r020");
        due("what he has left", days(x, 20, 0), 1);
    }

    private static void daysRefusals() {
        promise = "9 days, refusals";
        GlassHill x = new GlassHill();
        write(x, 1, INTS, 0, 5, 1, 6);
        due("no hill", x.days(1, INTS, 0, 3, 0), -3);
        due("no hill, no steps", x.days(1, INTS, 4, 0, 24), -3);
        due("fault of it", x.fault(), 0);
        due("INDEX ahead of STATE", x.days(1, INTS, 2, 3, 0), INDEX);
        build(x, "a255,r100,n100");
        due("sheet 4", x.days(4, 7, -1, -1, 3), -1);
        due("sheet -1", x.days(-1, 0, 0, 0, 0), -1);
        due("lane 3", x.days(2, 3, 0, 0, 0), -2);
        due("lane -1", x.days(2, -1, 0, 0, 0), -2);
        due("n -1", x.days(2, INTS, 0, -1, 0), -2);
        due("n 31", x.days(2, INTS, 0, 31, 0), -2);
        for (int what : new int[] {-1, 3, 9, 18, 19, 25, MANY, FEW}) {
            due("what " + what, x.days(2, INTS, 0, 0, what), -2);
        }
        due("another lane", x.days(1, BYTES, -1, 0, 0), CAST);
        due("nothing", x.days(2, BYTES, -1, 0, 0), NULL);
        due("its fault", x.fault(), 1);
        due("i -1", x.days(1, INTS, -1, 0, 0), INDEX);
        due("i 5", x.days(1, INTS, 5, 0, 0), INDEX);
        due("i 1 n 4", x.days(1, INTS, 1, 4, 0), INDEX);
        due("i most", x.days(1, INTS, MANY, 30, 0), INDEX);
        due("its fault", x.fault(), 3);
        due("i 4 n 0", x.days(1, INTS, 4, 0, 0), 0);
        due("a step 6", x.days(1, INTS, 2, 2, 0), -1);
        due("its fault", x.fault(), 0);
        due("a step of no rider", days(x, 0, 0, 2), -1);
        due("a step -1", days(x, 0, -1), -1);
        due("behind a first wrong", days(x, 1, 0, 0, 4), -1);
        due("a first wrong", days(x, 1, 0, 0, 5), 1);
        int[] most = new int[30];
        java.util.Arrays.fill(most, RAIN);
        most[29] = 1;
        due("30 steps", days(x, 2, most), 29);
    }

    private static void fewest() {
        promise = "10 fewest";
        GlassHill x = built("a255,r100,r050,l050");
        due("by himself", x.fewest(0, -1), 1);
        due("its step", x.fewest(0, 0), 0);
        due("there are fewer", x.fewest(0, 1), -9);
        due("k most", x.fewest(0, MANY), -9);
        // He needs all his speed for the upper pace: three slides of the lad free the lower one.
        due("of 1", x.fewest(1, -1), 4);
        int[] row = {2, 2, 2, 1, -9};
        for (int k = 0; k < 5; k++) {
            due("of 1, step " + k, x.fewest(1, k), row[k]);
        }
        x = built("a255,r050,n050");
        due("six", x.fewest(0, -1), 6);
        int[] six = {1, 1, 1, 1, 1, 0, -9};
        for (int k = 0; k < 7; k++) {
            due("six, step " + k, x.fewest(0, k), six[k]);
        }
        x = built("a266,r050,n050");
        due("more than six", x.fewest(0, -1), -9);
        x = built("a233,r040,r040,r040");
        due("of several the first", x.fewest(2, -1), 3);
        due("its step 0", x.fewest(2, 0), 0);
        due("its step 1", x.fewest(2, 1), 0);
        due("its step 2", x.fewest(2, 2), 2);
        x = built("a299,r000,r000");
        due("none", x.fewest(0, -1), -9);
        due("none, step 0", x.fewest(0, 0), -9);
        x.scratch(0, 9);
        x.scratch(1, 9);
        due("by scratches", x.fewest(0, -1), 1);
        due("r 2", x.fewest(2, -1), -1);
        due("r -1", x.fewest(-1, -1), -1);
        due("k -2", x.fewest(0, -2), -1);
        due("k least", x.fewest(0, FEW), -1);
    }

    private static void sand() {
        promise = "11 sand";
        GlassHill x = built("a43553,r160,r150,r100,n050,r000");
        due("up as it is", x.sand(0), 0);
        due("the least of one", x.sand(1), 1);
        due("two of 5 or others", x.sand(2), 3);
        due("a night: the two in the middle, for 4 each", x.sand(3), 6);
        due("all", x.sand(4), 15);
        x.scratch(2, 1);
        due("scratches laid", x.sand(1), 0);
        x = built("a228,r030");
        due("the dear one", x.sand(0), 2);
        due("r 1", x.sand(1), -1);
        due("r -1", x.sand(-1), -1);
    }

    private static void game() {
        promise = "12 game";
        GlassHill x = built("a255,r100,r100,r050");
        due("no turns", x.game(0, 1, 0), 0);
        due("the first is up at once", x.game(0, 1, 1), 1);
        due("and ahead of the other", x.game(0, 1, 10), 1);
        due("whoever is first", x.game(1, 0, 10), 1);
        due("the other has no turn", x.game(2, 0, 1), 0);
        due("the other has one", x.game(2, 0, 2), 2);
        // Who tries first brings the other one up.
        x = built("a212,r020,r020");
        due("to wait is better", x.game(0, 1, 2), 0);
        due("with a try alone", x.game(0, 1, 3), 0);
        x = built("a221,r020,r100");
        due("speed of another", x.game(0, 1, 4), 2);
        // The lad is up by his third try, the other one never.
        x = built("a262,l060,r000");
        for (int n = 0; n <= 10; n++) {
            due("lad first, " + n, x.game(0, 1, n), n >= 5 ? 1 : 0);
            due("lad second, " + n, x.game(1, 0, n), n >= 6 ? 2 : 0);
        }
        days(x, 0, 0, 0);
        x.scratch(0, 1);
        due("by one scratch laid", x.game(0, 1, 2), 0);
        due("by one scratch laid", x.game(0, 1, 3), 1);
        x.scratch(0, 2);
        due("by two scratches laid", x.game(0, 1, 1), 1);
        due("both are one", x.game(1, 1, 0), -2);
        due("n -1", x.game(0, 1, -1), -2);
        due("n 11", x.game(0, 1, 11), -2);
        due("r 2", x.game(2, 2, 11), -1);
        due("r -1", x.game(-1, 0, 0), -1);
        due("other 2", x.game(0, 2, 0), -1);
        due("other -1", x.game(0, -1, 11), -1);
    }

    private static void worth() {
        promise = "13 worth";
        GlassHill x = built("a322" + "2,l040,r040,r040");
        // Behind the lad's 2 scratches the others come up all 3 in place of 2.
        due("of the lad", x.worth(0), 101);
        due("of the second", x.worth(1), 100);
        due("of the last", x.worth(2), 100);
        x = built("a322" + "2,r040,r050,l040");
        due("one up in place of sliding", x.worth(0), 101);
        due("a second", x.worth(1), 100);
        x = built("a322" + "2,r040,l050,r000,r000");
        // He brings the lad up, who then leaves no scratches to the last two: 3 for 2 + 2 + 2.
        due("below 0", x.worth(0), 97);
        due("r 4", x.worth(4), -1);
        due("r -1", x.worth(-1), -1);
    }

    private static void reading() {
        promise = "14 reading";
        GlassHill x = built("a255,r100,r100");
        due("r 2", x.reading(2, 9), -1);
        due("r -1", x.reading(-1, 0), -1);
        due("height -1", x.reading(0, -1), -2);
        due("height 9", x.reading(0, 9), -2);
        for (int k = 0; k < 8; k++) {
            due("number", x.reading(k % 2, 8 - k), k);
        }
        due("full", x.reading(0, 0), -4);
        due("OUTSIDE ahead of FULL", x.reading(0, 9), -2);
        due("UNKNOWN ahead of FULL", x.reading(2, 0), -1);
        due("8", x.many(2), 8);
    }

    private static void back() {
        promise = "15 back";
        GlassHill x = new GlassHill();
        due("none of none", x.back(0), 0);
        due("one of none", x.back(1), -2);
        build(x, "a255,r100");
        x.reading(0, 2);
        x.reading(0, 1);
        x.reading(0, 0);
        due("k -1", x.back(-1), -2);
        due("k 4", x.back(4), -2);
        due("k least", x.back(FEW), -2);
        due("none", x.back(0), 3);
        due("two, the last ones", x.back(2), 1);
        step(x, 0);
        due("the first one is left", x.speeds(0, 1, INTS, 1, 1, 1), 10);
        due("its number next", x.reading(0, 2), 1);
        due("all", x.back(2), 0);
    }

    private static void speeds() {
        promise = "16 speeds";
        GlassHill x = built("a255,r070,n130");
        int n = step(x, 0);
        due("no readings", x.speeds(0, 1, INTS, 1, n, 0), 100);
        due("no readings, least", x.speeds(0, 1, INTS, 1, n, 1), 0);
        x.reading(0, 1);
        due("5 .. 9", x.speeds(0, 1, INTS, 1, n, 0), 5);
        due("least", x.speeds(0, 1, INTS, 1, n, 1), 5);
        due("kept", x.ofRider(0, 1), 7);
        due("of another", x.speeds(1, 1, INTS, 1, n, 0), 100);
        x.reading(1, 2);
        due("one who did not try", x.speeds(0, 1, INTS, 1, n, 0), 0);
        due("one who did not try, least", x.speeds(0, 1, INTS, 1, n, 1), -9);
        n = step(x, 0, 1, RAIN, 0);
        // Last try of 0: 1 less, a scratch less than he left: 6 .. 10 by it, but 10 is up at once.
        due("two tries", x.speeds(0, 1, INTS, 1, n, 0), 4);
        due("two tries, least", x.speeds(0, 1, INTS, 1, n, 1), 6);
        x = built("a255,r990");
        n = step(x, 0, 0);
        due("as it is they can't be", days(x, 1, 0, 0), 1);
        x.reading(0, 0);
        due("but by others", x.speeds(0, 1, INTS, 1, n, 0), 5);
        x.reading(0, 0);
        due("a reading twice", x.speeds(0, 1, INTS, 1, n, 0), 5);
        x.reading(0, 1);
        due("two that can't both be", x.speeds(0, 1, INTS, 1, n, 0), 0);
        due("which -1", x.speeds(0, 1, INTS, 1, n, -1), -2);
        due("which 2", x.speeds(0, 1, INTS, 1, n, 2), -2);
    }

    private static void nails() {
        promise = "17 nails";
        GlassHill x = built("a258,r070,r070");
        int n = step(x, 0);
        due("no readings", x.nails(0, 1, INTS, 1, n), 1023);
        x.reading(0, 1);
        // 5 - v + 8 - v is more than 7 for 0 .. 2.
        due("0 .. 2", x.nails(0, 1, INTS, 1, n), 7);
        due("kept", x.ofRider(0, 2), 0);
        due("of another", x.nails(1, 1, INTS, 1, n), 1023);
        x.reading(0, 2);
        due("none", x.nails(0, 1, INTS, 1, n), 0);
    }

    private static void slicks() {
        promise = "18 slicks";
        GlassHill x = built("a258,r070");
        int n = step(x, 0);
        due("no readings", x.slicks(1, 1, INTS, 1, n), 1023);
        x.reading(0, 1);
        due("of 0: 0 .. 7", x.slicks(0, 1, INTS, 1, n), 255);
        due("of 1: 3 .. 9", x.slicks(1, 1, INTS, 1, n), 1016);
        due("kept", x.ofPace(0, 0), 5);
        due("kept", x.ofPace(1, 0), 8);
        x.reading(0, 2);
        due("none", x.slicks(1, 1, INTS, 1, n), 0);
    }

    private static void kinds() {
        promise = "19 kinds";
        GlassHill x = built("a255,n080,r080");
        int n = step(x, 0);
        due("no readings", x.kinds(0, 1, INTS, 1, n), 7);
        x.reading(0, 2);
        due("a night alone", x.kinds(0, 1, INTS, 1, n), 2);
        due("kept", x.ofRider(0, 0), 1);
        due("of another: as it is", x.kinds(1, 1, INTS, 1, n), 7);
        x.back(1);
        x.reading(0, 1);
        due("a rider, a lad", x.kinds(0, 1, INTS, 1, n), 5);
        x = built("a266,r060,r110");
        n = step(x, 0, 1);
        x.reading(1, 2);
        due("by what he leaves", x.kinds(0, 1, INTS, 1, n), 7);
        x.speed(1, 10);
        due("a lad leaves 2", x.kinds(0, 1, INTS, 1, n), 4);
    }

    private static void seenRefusals() {
        promise = "16-19, refusals";
        GlassHill x = new GlassHill();
        due("no hill", x.nails(0, 1, INTS, 0, 0), -1);
        due("no hill", x.slicks(0, 1, INTS, 0, 0), -1);
        build(x, "a255,r100");
        write(x, 1, INTS, 0, 5, 1);
        int[][] calls = {
            // sheet, lane, i, n, due
            {-1, 3, 0, 31, -1}, {4, 0, 0, 0, -1}, {2, 3, 0, 0, -2}, {2, -1, 0, 0, -2},
            {2, INTS, 0, -1, -2}, {2, INTS, 0, 31, -2}, {1, SHORTS, -1, 0, CAST},
            {2, SHORTS, -1, 0, NULL}, {1, INTS, -1, 0, INDEX}, {1, INTS, 4, 0, INDEX},
            {1, INTS, 0, 4, INDEX}, {1, INTS, 0, 3, -1}
        };
        for (int[] c : calls) {
            String told = java.util.Arrays.toString(c);
            int met = c[4] <= -11 ? -10 - c[4] : 0;
            due("speeds " + told, x.speeds(0, c[0], c[1], c[2], c[3], 0), c[4]);
            due("its fault", x.fault(), met);
            due("nails " + told, x.nails(0, c[0], c[1], c[2], c[3]), c[4]);
            due("its fault", x.fault(), met);
            due("slicks " + told, x.slicks(0, c[0], c[1], c[2], c[3]), c[4]);
            due("its fault", x.fault(), met);
            due("kinds " + told, x.kinds(0, c[0], c[1], c[2], c[3]), c[4]);
            due("its fault", x.fault(), met);
        }
        x.put(2, 0, 0);
        due("speeds of none", x.speeds(1, 1, 3, 0, 31, 2), -1);
        due("its fault", x.fault(), 0);
        x.put(2, 0, 0);
        due("nails of none", x.nails(-1, 1, 3, 0, 0), -1);
        due("its fault", x.fault(), 0);
        x.put(2, 0, 0);
        due("slicks of none", x.slicks(2, 1, 3, 0, 0), -1);
        due("its fault", x.fault(), 0);
        x.put(2, 0, 0);
        due("kinds of none", x.kinds(1, 1, 3, 0, 0), -1);
        due("its fault", x.fault(), 0);
        due("slicks of a pace alone", x.slicks(1, 1, INTS, 0, 1), 1023);
        due("which ahead of NULL", x.speeds(0, 2, INTS, 0, 0, 2), -2);
    }

    private static void odds() {
        promise = "20 odds";
        GlassHill x = built("a255,r090,l100");
        share(x, 0, 0, 1);
        share(x, 1, 1, 1, 1);
        share(x, 1, 1, 1, 1, 1, RAIN);
        x.scratch(0, 1);
        // 0 is up if it does not rain ahead of his try.
        share(x, 0, 1, 2, 0);
        // It is too late to rain behind it, and rain by a step is rain, too.
        share(x, 0, 1, 2, 0, 1, 1);
        share(x, 0, 0, 1, RAIN, 0);
        share(x, 1, 0, 1, 0, 0);
        x.scratch(0, 2);
        share(x, 0, 3, 4, 1, 0);
        share(x, 0, 1, 4, RAIN, 0);
        share(x, 0, 1, 1, 0, 0);
        // He needs one scratch of two: it may rain once at most.
        share(x, 0, 11, 1024, 1, 1, 1, 1, 1, 1, 1, 1, 1, 0);
        due("what is laid stays", x.ofPace(0, 1), 2);
    }

    private static void share(GlassHill x, int r, long upper, long lower, int... steps) {
        int n = step(x, steps);
        String told = r + " " + java.util.Arrays.toString(steps);
        due("upper " + told, x.odds(r, 1, INTS, 1, n, 0), upper);
        due("lower " + told, x.odds(r, 1, INTS, 1, n, 1), lower);
    }

    private static void oddsRefusals() {
        promise = "20 odds, refusals";
        long lost = GlassHill.LOST;
        GlassHill x = new GlassHill();
        due("no hill", x.odds(0, 1, INTS, 0, 0, 0), lost);
        build(x, "a255,r100");
        write(x, 1, INTS, 0, 5, 1, 0, 0, 0, 0, 0, 0, 0, 0, 0);
        int[][] calls = {
            // r, sheet, lane, i, n, which, fault
            {1, 1, INTS, 99, 1, 0, 0}, {-1, 1, SHORTS, 0, 1, 0, 0}, {0, 4, INTS, 0, 1, 0, 0},
            {0, -1, INTS, 0, 1, 0, 0}, {0, 2, 3, 0, 1, 0, 0}, {0, 2, -1, 0, 1, 0, 0},
            {0, 2, INTS, 0, -1, 0, 0}, {0, 2, INTS, 0, 11, 0, 0}, {0, 2, INTS, 0, 1, -1, 0},
            {0, 2, INTS, 0, 1, 2, 0}, {0, 1, BYTES, -1, 1, 0, 2}, {0, 2, BYTES, -1, 1, 0, 1},
            {0, 1, INTS, -1, 1, 0, 3}, {0, 1, INTS, 13, 0, 0, 3}, {0, 1, INTS, 3, 10, 0, 3},
            {0, 1, INTS, 0, 3, 0, 0}
        };
        for (int[] c : calls) {
            String told = java.util.Arrays.toString(c);
            x.put(3, 0, 0);
            due("odds " + told, x.odds(c[0], c[1], c[2], c[3], c[4], c[5]), lost);
            due("its fault", x.fault(), c[6]);
        }
        due("10 steps", x.odds(0, 1, INTS, 2, 10, 1), lost);
        write(x, 1, INTS, 0, 0, 0, 0, 0, 0, 0, 0, 0, 0);
        due("10 steps", x.odds(0, 1, INTS, 0, 10, 1), 1);
        due("no steps, upper", x.odds(0, 1, INTS, 10, 0, 0), 0);
        due("no steps, lower", x.odds(0, 1, INTS, 10, 0, 1), 1);
    }

    private static void sheet() {
        promise = "21 sheet";
        GlassHill x = new GlassHill();
        due("60 cells", x.sheet(0, INTS, 60), 1);
        due("last one", x.cell(0, 59, INTS), 0);
        x.put(0, 3, 9);
        due("a new row", x.sheet(0, INTS, 5), 1);
        due("0 at first", x.cell(0, 3, INTS), 0);
        due("so long alone", x.cell(0, 5, INTS), GlassHill.LOST);
        x.put(0, 3, 9);
        due("k 4", x.sheet(4, 9, -1), -1);
        due("k -1", x.sheet(-1, 0, 0), -1);
        due("lane 3", x.sheet(0, 3, -1), -2);
        due("lane -1", x.sheet(0, -1, 1), -2);
        due("n 61", x.sheet(0, BYTES, 61), -2);
        due("n most", x.sheet(0, BYTES, MANY), -2);
        due("fault", x.fault(), 0);
        due("n -1", x.sheet(0, BYTES, -1), SIZE);
        due("n least", x.sheet(0, BYTES, FEW), SIZE);
        due("fault", x.fault(), 4);
        due("kept", x.cell(0, 3, INTS), 9);
        due("no cells", x.sheet(0, SHORTS, 0), 1);
        due("a row of no cells is there", x.put(0, 0, 0), INDEX);
        due("lose it", x.lose(0), 1);
    }

    private static void lose() {
        promise = "22 lose";
        GlassHill x = new GlassHill();
        x.sheet(3, SHORTS, 2);
        x.sheet(2, SHORTS, 2);
        x.put(2, 2, 0);
        due("had", x.lose(3), 1);
        due("names no fault", x.fault(), 3);
        due("had nothing", x.lose(3), 0);
        due("nothing", x.cell(3, 0, SHORTS), GlassHill.LOST);
        due("its fault", x.fault(), 1);
        due("the other is kept", x.cell(2, 1, SHORTS), 0);
        due("k 4", x.lose(4), -1);
        due("k -1", x.lose(-1), -1);
    }

    private static void put() {
        promise = "23 put";
        GlassHill x = new GlassHill();
        int[] values = {0, 127, 128, 255, 256, -1, -129, 32767, 32768, 65535, MANY, FEW};
        for (int v : values) {
            for (int lane = BYTES; lane <= INTS; lane++) {
                x.sheet(1, lane, 3);
                due("put " + v, x.put(1, 2, v), 1);
                long cut = lane == BYTES ? (byte) v : lane == SHORTS ? (short) v : v;
                due("cell of " + v + " in lane " + lane, x.cell(1, 2, lane), cut);
                due("the cell ahead", x.cell(1, 1, lane), 0);
            }
        }
        due("k 4", x.put(4, 9, 0), -1);
        due("k -1", x.put(-1, 9, 0), -1);
        due("fault", x.fault(), 0);
        due("nothing", x.put(2, -1, 0), NULL);
        due("fault", x.fault(), 1);
        due("i -1", x.put(1, -1, 0), INDEX);
        due("i 3", x.put(1, 3, 0), INDEX);
        due("i most", x.put(1, MANY, 0), INDEX);
        due("fault", x.fault(), 3);
        due("none", x.put(1, 0, 0), 1);
        due("fault", x.fault(), 0);
    }

    private static void cell() {
        promise = "24 cell";
        long lost = GlassHill.LOST;
        GlassHill x = new GlassHill();
        write(x, 0, SHORTS, 5, -6);
        due("0", x.cell(0, 0, SHORTS), 5);
        due("1", x.cell(0, 1, SHORTS), -6);
        int[][] calls = {
            // k, i, lane, fault
            {4, 0, 0, 0}, {-1, 0, 0, 0}, {1, 0, 3, 0}, {1, 0, -1, 0}, {0, 0, 3, 0},
            {0, -1, INTS, 2}, {0, 0, BYTES, 2}, {1, -1, INTS, 1}, {0, -1, SHORTS, 3},
            {0, 2, SHORTS, 3}, {0, MANY, SHORTS, 3}, {0, FEW, SHORTS, 3}
        };
        for (int[] c : calls) {
            x.put(3, 0, 0);
            due("cell " + java.util.Arrays.toString(c), x.cell(c[0], c[1], c[2]), lost);
            due("its fault", x.fault(), c[3]);
        }
        due("1", x.cell(0, 1, SHORTS), -6);
        due("none", x.fault(), 0);
    }

    private static void copy() {
        promise = "25 copy";
        GlassHill x = new GlassHill();
        write(x, 0, INTS, 1, 2, 3, 4, 5);
        write(x, 1, INTS, 9, 9, 9);
        due("two", x.copy(0, 3, 1, 1, 2), 2);
        row(x, 1, 9, 4, 5);
        due("up over itself", x.copy(0, 0, 0, 1, 4), 4);
        row(x, 0, 1, 1, 2, 3, 4);
        due("down over itself", x.copy(0, 1, 0, 0, 4), 4);
        row(x, 0, 1, 2, 3, 4, 4);
        due("none at the ends", x.copy(0, 5, 1, 3, 0), 0);
        x.sheet(2, BYTES, 5);
        due("k 4", x.copy(4, 0, 3, 0, 0), -1);
        due("k -1", x.copy(-1, 0, 0, 0, 0), -1);
        due("other 4", x.copy(3, 0, 4, 0, 0), -1);
        due("other -1", x.copy(0, 0, -1, 0, 0), -1);
        due("fault", x.fault(), 0);
        due("the first has nothing", x.copy(3, -1, 0, 0, -1), NULL);
        due("the other has nothing", x.copy(0, -1, 3, 0, -1), NULL);
        due("fault", x.fault(), 1);
        due("unlike lanes", x.copy(0, -1, 2, 0, -1), CAST);
        due("fault", x.fault(), 2);
        int[][] places = {{-1, 0, 0}, {0, -1, 0}, {0, 0, -1}, {6, 0, 0}, {0, 4, 0}, {4, 0, 2},
            {0, 2, 2}, {MANY, 0, 1}, {0, MANY, 1}, {1, 1, MANY}, {0, 0, FEW}, {FEW, 0, FEW}};
        for (int[] p : places) {
            due("copy " + java.util.Arrays.toString(p), x.copy(0, p[0], 1, p[1], p[2]), INDEX);
            due("fault", x.fault(), 3);
        }
        row(x, 1, 9, 4, 5);
        row(x, 0, 1, 2, 3, 4, 4);
    }

    private static void row(GlassHill x, int k, int... want) {
        for (int i = 0; i < want.length; i++) {
            due("cell " + i + " of " + k, x.cell(k, i, INTS), want[i]);
        }
    }

    private static void tell() {
        promise = "26 tell";
        GlassHill x = built("a255,r107,n108,l109");
        due("rider", x.tell(0), 7);
        due("trace", x.trace(), 1);
        due("night", x.tell(1), 108);
        due("trace", x.trace(), (1 * 31 + 2) * 31 + 1);
        int trace = x.trace();
        due("lad", x.tell(2), 118);
        for (int body : new int[] {3, 2, 1, 1}) {
            trace = trace * 31 + body;
        }
        due("trace", x.trace(), trace);
        x.shoe(0, 0);
        due("shod", x.tell(0), 0);
        trace = trace * 31 + 1;
        due("r 3", x.tell(3), -1);
        due("r -1", x.tell(-1), -1);
        due("trace of refused ones", x.trace(), trace);
    }

    private static void cheer() {
        promise = "27 cheer";
        GlassHill x = built("a255,l107,n108,r109");
        due("lad", x.cheer(0), 80);
        due("trace", x.trace(), 5);
        due("night", x.cheer(1), 1);
        due("trace", x.trace(), 5 * 31 + 4);
        due("rider", x.cheer(2), 2);
        due("trace", x.trace(), (5 * 31 + 4) * 31 + 4);
        due("r 3", x.cheer(3), -1);
        due("r -1", x.cheer(-1), -1);
        due("trace", x.trace(), (5 * 31 + 4) * 31 + 4);
    }

    private static void as() {
        promise = "28 as";
        GlassHill x = built("a255,r107,n108,l109");
        for (int r = 0; r < 3; r++) {
            for (int kind = 0; kind < 3; kind++) {
                due(r + " as " + kind, x.as(r, kind), kind <= r ? 1 : CAST);
                due("its fault", x.fault(), kind <= r ? 0 : 2);
            }
        }
        x.as(0, 2);
        due("r 3", x.as(3, 3), -1);
        due("its fault", x.fault(), 0);
        due("r -1", x.as(-1, 0), -1);
        x.as(0, 2);
        due("kind 3", x.as(0, 3), -2);
        due("its fault", x.fault(), 0);
        due("kind -1", x.as(0, -1), -2);
    }

    private static void trace() {
        promise = "29 trace";
        GlassHill x = built("a255,l100");
        int trace = 0;
        for (int k = 0; k < 20; k++) {
            x.cheer(0);
            trace = trace * 31 + 5;
            due("wraps", x.trace(), trace);
        }
        due("told twice", x.trace(), trace);
        build(x, "a255,r100");
        due("of a hill", x.trace(), trace);
    }

    private static void fault() {
        promise = "30 fault";
        GlassHill x = built("a255,r100");
        x.put(3, 0, 0);
        due("put", x.fault(), 1);
        x.ofPace(9, 9);
        x.ofRider(9, 9);
        x.scratch(0, 1);
        x.speed(0, 1);
        x.shoe(0, 1);
        x.takes(0, 0, 0);
        x.fewest(0, 0);
        x.sand(0);
        x.game(0, 0, 0);
        x.worth(0);
        x.reading(0, 0);
        x.back(0);
        x.lose(2);
        x.tell(0);
        x.cheer(0);
        x.trace();
        x.many(0);
        due("of calls that name none", x.fault(), 1);
        due("told twice", x.fault(), 1);
        x.sheet(0, 0, 1);
        due("sheet", x.fault(), 0);
        x.put(3, 0, 0);
        x.copy(0, 0, 0, 0, 1);
        due("copy", x.fault(), 0);
        x.put(3, 0, 0);
        x.cell(0, 0, 0);
        due("cell", x.fault(), 0);
        x.put(3, 0, 0);
        x.cell(9, 0, 0);
        due("cell refused", x.fault(), 0);
        x.put(3, 0, 0);
        x.sheet(0, 9, 1);
        due("sheet refused", x.fault(), 0);
        x.put(3, 0, 0);
        x.copy(9, 0, 0, 0, 1);
        due("copy refused", x.fault(), 0);
        x.put(3, 0, 0);
        x.hill(9, 0, 0, 1);
        due("hill refused", x.fault(), 0);
        x.put(3, 0, 0);
        x.days(0, 0, 0, 1, 0);
        due("days", x.fault(), 0);
        x.put(3, 0, 0);
        x.odds(0, 0, 0, 0, 1, 0);
        due("odds", x.fault(), 0);
        x.put(3, 0, 0);
        x.kinds(0, 0, 0, 0, 1);
        due("kinds", x.fault(), 0);
        x.put(3, 0, 0);
        x.as(0, 0);
        due("as", x.fault(), 0);
    }

    private static void many() {
        promise = "31 many";
        GlassHill x = built("a5" + "12345,r100,r100,r100");
        x.reading(0, 0);
        x.reading(0, 0);
        due("riders", x.many(0), 3);
        due("paces", x.many(1), 5);
        due("readings", x.many(2), 2);
        due("what -1", x.many(-1), -2);
        due("what 3", x.many(3), -2);
    }

    /** As many riders, paces, steps as there can be: what goes beyond a row is seen by its throw. */
    private static void mostOfAll() {
        promise = "the most of all";
        GlassHill x = built("a811111111,r000,n001,l100,r090,l070");
        due("fewest of the last", x.fewest(4, -1), 2);
        due("its step 0", x.fewest(4, 0), 4);
        due("sand of the last", x.sand(4), 1);
        due("sand of the first", x.sand(0), 255);
        due("worth of the last", x.worth(4), 100);
        // All others are up, or come up nothing.
        due("worth of the first", x.worth(0), 100);
        due("game of the last", x.game(4, 0, 10), 1);
        due("game of the last, second", x.game(0, 4, 10), 2);
        int[] rains = new int[10];
        java.util.Arrays.fill(rains, RAIN);
        x.scratch(7, 9);
        due("scratches of the last", days(x, 17, rains), 0);
        int n = step(x, 4, 4, 4, 4, 4, 4, 4, 4, 4, 4);
        due("odds of the last", x.odds(4, 1, INTS, 1, n, 0), 1);
        due("height of the last", days(x, 24, 4), 8);
        due("slicks of the last", x.slicks(7, 1, INTS, 1, 1), 1023);
        due("kinds of the last", x.kinds(4, 1, INTS, 1, 1), 7);
        due("takes of the last", x.takes(4, 7, 9), 0);
        due("cheer of the last", x.cheer(4), 80);
    }
}
