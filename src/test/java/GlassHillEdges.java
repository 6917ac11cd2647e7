import java.lang.annotation.ElementType;
import java.lang.annotation.Retention;
import java.lang.annotation.RetentionPolicy;
import java.lang.annotation.Target;
import java.lang.reflect.InvocationTargetException;
import java.lang.reflect.Method;
import java.nio.charset.StandardCharsets;
import java.nio.file.Files;
import java.nio.file.Path;
import java.util.ArrayList;
import java.util.Arrays;
import java.util.Comparator;
import java.util.List;
import java.util.TreeSet;
import java.util.function.Consumer;

/**
 * One test for each sentence of the document that names a boundary case: pNN_ is the promise,
 * Says has the sentence word for word, which must stand under that promise or in the Terms.
 * With an argument, those tests alone are run whose names begin with it.
 */
public final class GlassHillEdges {
    @Retention(RetentionPolicy.RUNTIME)
    @Target(ElementType.METHOD)
    private @interface Says {
        String value();
    }

    private interface Call {
        long on(GlassHill x);
    }

    private interface OfCells {
        long on(GlassHill x, int sheet, int lane, int i, int n);
    }

    private static final Path DOCUMENT = Path.of("../shared/DOC.md");
    private static final int PROMISES = 31;

    private static final int UNKNOWN = -1, OUTSIDE = -2, STATE = -3, FULL = -4, NONE = -9;
    private static final long LOST = Long.MIN_VALUE;
    private static final int NULL = 1, CAST = 2, INDEX = 3, SIZE = 4;
    private static final int BYTES = 0, SHORTS = 1, INTS = 2, RAIN = 5;
    private static final int MOST = Integer.MAX_VALUE, LEAST = Integer.MIN_VALUE;

    /** Of full(): it has 3 riders and 3 paces. */
    private static final int[] NO_RIDERS = {-1, 3, 4, 5, MOST, LEAST};
    private static final int[] NO_PACES = {-1, 3, 7, 8, MOST, LEAST};
    private static final int[] NO_SHEETS = {-1, 4, MOST, LEAST};
    private static final int[] NO_LANES = {-1, 3, MOST, LEAST};

    private static String test = "";
    private static int wrongHere;

    public static void main(String[] args) throws Exception {
        String start = args.length == 0 ? "" : args[0];
        List<Method> tests = new ArrayList<>();
        for (Method m : GlassHillEdges.class.getDeclaredMethods()) {
            if (m.isAnnotationPresent(Says.class) && m.getName().startsWith(start)) {
                tests.add(m);
            }
        }
        tests.sort(Comparator.comparing(Method::getName));
        int failed = 0;
        for (Method m : tests) {
            failed += holds(m) ? 0 : 1;
        }
        boolean found = args.length > 0 || sentencesAreTheDocuments(tests);
        System.out.println(tests.size() + " sentences, " + failed + " do not hold");
        if (failed != 0 || !found) {
            System.exit(1);
        }
    }

    private static boolean holds(Method m) throws Exception {
        test = m.getName();
        wrongHere = 0;
        try {
            m.invoke(null);
        } catch (InvocationTargetException thrown) {
            wrong("threw " + thrown.getCause());
        }
        if (wrongHere != 0) {
            System.out.println("broken: " + test + " (\"" + m.getAnnotation(Says.class).value() + "\")");
        }
        return wrongHere == 0;
    }

    private static boolean sentencesAreTheDocuments(List<Method> tests) throws Exception {
        if (!Files.exists(DOCUMENT)) {
            return true;
        }
        String document = Files.readString(DOCUMENT, StandardCharsets.UTF_8).replaceAll("\\s+", " ");
        String terms = between(document, "## Terms", "## Promise 1:");
        TreeSet<Integer> seen = new TreeSet<>();
        boolean all = true;
        for (Method m : tests) {
            int promise = Integer.parseInt(m.getName().substring(1, 3));
            seen.add(promise);
            String own = between(document, "## Promise " + promise + ":", "## ");
            String says = m.getAnnotation(Says.class).value();
            if (!terms.contains(says) && !own.contains(says)) {
                all = false;
                System.out.println(m.getName() + ": the document does not say \"" + says + "\"");
            }
        }
        for (int promise = 1; promise <= PROMISES; promise++) {
            if (!seen.contains(promise)) {
                all = false;
                System.out.println("promise " + promise + " has no test");
            }
        }
        return all;
    }

    private static String between(String text, String start, String end) {
        int from = text.indexOf(start);
        if (from < 0) {
            return "";
        }
        int to = text.indexOf(end, from + start.length());
        return text.substring(from, to < 0 ? text.length() : to);
    }

    // ---- what is due

    private static void wrong(String told) {
        wrongHere++;
        if (wrongHere <= 5) {
            System.out.println(test + ": " + told);
        }
    }

    private static void due(String call, long got, long want) {
        if (got != want) {
            wrong(call + " answered " + got + ", due is " + want);
        }
    }

    /** Of two objects alike one is asked: behind it both are alike, but for fault(). */
    private static void keeps(String call, Consumer<GlassHill> ahead, Call asked, long answer, int fault) {
        GlassHill x = full();
        GlassHill twin = full();
        ahead.accept(x);
        ahead.accept(twin);
        due(call, asked.on(x), answer);
        due(call + ", then fault()", x.fault(), fault);
        List<Long> got = state(x);
        List<Long> want = state(twin);
        if (!got.equals(want)) {
            wrong(call + " changed " + want + " into " + got);
        }
    }

    /** Refused by a call that names faults: fault() is told anew. */
    private static void refused(String call, Call asked, long answer) {
        keeps(call, x -> meet(x, NULL), asked, answer, 0);
    }

    /** Refused by a call that names none: fault() stays. */
    private static void refusedBesideFaults(String call, Call asked, long answer) {
        keeps(call, x -> meet(x, NULL), asked, answer, NULL);
    }

    private static void faulted(String call, Call asked, int number) {
        faulted(call, asked, -10 - number, number);
    }

    private static void faulted(String call, Call asked, long answer, int number) {
        keeps(call, x -> meet(x, number == NULL ? INDEX : NULL), asked, answer, number);
    }

    private static void meet(GlassHill x, int number) {
        long answer = number == NULL ? x.put(3, 0, 0) : x.put(2, 60, 0);
        due("a fault met ahead", answer, -10 - number);
    }

    // ---- objects to ask

    private static void write(GlassHill x, int k, int lane, int... row) {
        x.sheet(k, lane, row.length);
        for (int i = 0; i < row.length; i++) {
            x.put(k, i, row[i]);
        }
    }

    private static int hillBy(GlassHill x, String text) {
        write(x, 0, BYTES, text.chars().toArray());
        return x.hill(0, BYTES, 0, text.length());
    }

    private static GlassHill built(String text) {
        GlassHill x = new GlassHill();
        if (hillBy(x, text) < 1) {
            wrong("no hill by " + text);
        }
        return x;
    }

    /** Of steps that are laid at the end of sheet 1, behind one cell that is no step. */
    private static int days(GlassHill x, int what, int... steps) {
        return x.days(1, INTS, 1, lay(x, steps), what);
    }

    private static int lay(GlassHill x, int... steps) {
        int[] row = new int[steps.length + 1];
        row[0] = -77;
        System.arraycopy(steps, 0, row, 1, steps.length);
        write(x, 1, INTS, row);
        return steps.length;
    }

    private static int[] rains(int n) {
        int[] row = new int[n];
        Arrays.fill(row, RAIN);
        return row;
    }

    /** Something of all that there is; sheet 3 has nothing, sheet 1 has 30 rains from 5 on. */
    private static GlassHill full() {
        GlassHill x = built("a3579,r123,n456,l789");
        x.scratch(0, 1);
        x.scratch(2, 4);
        x.speed(0, 7);
        x.shoe(1, 3);
        x.tell(2);
        x.cheer(0);
        x.reading(0, 1);
        x.reading(1, 3);
        int[] row = rains(35);
        System.arraycopy(new int[] {0, 5, 1, 0, 2}, 0, row, 0, 5);
        write(x, 1, INTS, row);
        write(x, 2, SHORTS, 9, -300);
        return x;
    }

    /** All that can be seen but fault(); it uses the object up. */
    private static List<Long> state(GlassHill x) {
        List<Long> seen = new ArrayList<>();
        seen.add((long) x.trace());
        for (int what = 0; what < 3; what++) {
            seen.add((long) x.many(what));
            for (int r = 0; r < 5; r++) {
                seen.add((long) x.ofRider(r, what));
            }
            for (int p = 0; p < 8 && what < 2; p++) {
                seen.add((long) x.ofPace(p, what));
            }
        }
        for (int k = 0; k < 4; k++) {
            for (int lane = BYTES; lane <= INTS; lane++) {
                seen.addAll(cells(x, k, lane));
            }
        }
        write(x, 3, INTS, 0, 1, 2);
        while (x.many(2) > 0) {
            for (int r = 0; r < 3; r++) {
                seen.add((long) x.nails(r, 3, INTS, 0, 3));
            }
            x.back(1);
        }
        return seen;
    }

    private static List<Long> cells(GlassHill x, int k, int lane) {
        List<Long> row = new ArrayList<>();
        long cell = x.cell(k, 0, lane);
        while (cell != LOST) {
            row.add(cell);
            cell = x.cell(k, row.size(), lane);
        }
        row.add((long) x.fault());
        return row;
    }

    private static void row(GlassHill x, int k, int lane, int... want) {
        for (int i = 0; i < want.length; i++) {
            due("cell " + i + " of " + k, x.cell(k, i, lane), want[i]);
        }
        due("cell beyond " + k, x.cell(k, want.length, lane), LOST);
    }

    // ---- promise 1: a new object

    @Says("No HILL (no PACES, RIDERS), SHEETS have nothing.")
    private static void p01_no_paces() {
        GlassHill x = new GlassHill();
        due("many(1)", x.many(1), 0);
        due("ofPace(0, 0)", x.ofPace(0, 0), UNKNOWN);
        due("scratch(0, 0)", x.scratch(0, 0), UNKNOWN);
    }

    @Says("No HILL (no PACES, RIDERS), SHEETS have nothing.")
    private static void p01_no_riders() {
        GlassHill x = new GlassHill();
        due("many(0)", x.many(0), 0);
        due("ofRider(0, 0)", x.ofRider(0, 0), UNKNOWN);
        due("takes(0, 0, 0)", x.takes(0, 0, 0), UNKNOWN);
        due("fewest(0, -1)", x.fewest(0, -1), UNKNOWN);
        due("sand(0)", x.sand(0), UNKNOWN);
        due("game(0, 1, 1)", x.game(0, 1, 1), UNKNOWN);
        due("worth(0)", x.worth(0), UNKNOWN);
        due("reading(0, 0)", x.reading(0, 0), UNKNOWN);
        due("tell(0)", x.tell(0), UNKNOWN);
        due("cheer(0)", x.cheer(0), UNKNOWN);
        due("as(0, 0)", x.as(0, 0), UNKNOWN);
    }

    @Says("SHEETS 0 .. 3 have nothing (at first)")
    private static void p01_sheets_have_nothing() {
        for (int k = 0; k < 4; k++) {
            GlassHill x = new GlassHill();
            due("put " + k, x.put(k, 0, 0), -10 - NULL);
            due("lose " + k, x.lose(k), 0);
        }
    }

    @Says("No HILL (no PACES, RIDERS), SHEETS have nothing.")
    private static void p01_another_objects_hill_and_sheets_are_its_own() {
        GlassHill other = full();
        GlassHill x = new GlassHill();
        due("many(0)", x.many(0), 0);
        due("many(1)", x.many(1), 0);
        due("many(2)", x.many(2), 0);
        due("trace()", x.trace(), 0);
        due("lose(0)", x.lose(0), 0);
        due("the other's", other.lose(0), 1);
    }

    // ---- promise 2: hill

    /** Riders 0, 1, 2 begin with the commas at 4, 9, 14. */
    private static final String TEXT = "a234,r123,n456,l789";
    private static final String FIVE = "a234,r123,n456,l789,r000,n999";

    private static int hillOf(int lane, int... codes) {
        GlassHill x = new GlassHill();
        write(x, 0, lane, codes);
        return x.hill(0, lane, 0, codes.length);
    }

    private static int hillOf(String text) {
        return hillOf(BYTES, text.chars().toArray());
    }

    private static void noTextGoesOn(int place, int... wrongCodes) {
        for (int code : wrongCodes) {
            int[] codes = TEXT.chars().toArray();
            codes[place] = code;
            due("code " + code + " at " + place, hillOf(INTS, codes), -100 - place);
        }
    }

    private static void textGoesOn(int place, int... codesThere) {
        for (int code : codesThere) {
            int[] codes = TEXT.chars().toArray();
            codes[place] = code;
            due("code " + code + " at " + place, hillOf(INTS, codes), 3);
        }
    }

    @Says("(Codes: a 97, r 114, n 110, l 108, comma 44, digits 48 .. 57.)")
    private static void p02_the_first_code_is_97() {
        textGoesOn(0, 97);
        noTextGoesOn(0, 96, 98, 65, 0, -97, 97 + 256, LEAST, MOST);
    }

    @Says("a, a digit 2 .. 8 (PACES, numbered from 0 on, from below)")
    private static void p02_paces_are_2_to_8() {
        for (int paces = 2; paces <= 8; paces++) {
            GlassHill x = built("a" + paces + "0".repeat(paces) + ",r000");
            due("many(1)", x.many(1), paces);
            due("the last", x.ofPace(paces - 1, 0), 0);
            due("beyond", x.ofPace(paces, 0), UNKNOWN);
        }
        for (char paces : new char[] {'0', '1', '9', '/', ':'}) {
            due("a" + paces, hillOf("a" + paces + "000000000,r000"), -101);
        }
    }

    @Says("then so many digits 0 .. 9 (SLICK, PACE by PACE)")
    private static void p02_so_many_slicks_and_no_fewer_or_more() {
        due("one fewer", hillOf("a32" + "2,r000"), -104);
        due("one more", hillOf("a32" + "222,r000"), -105);
        due("8, one fewer", hillOf("a82222222,r000"), -109);
        due("8, one more", hillOf("a8222222222,r000"), -110);
    }

    @Says("then so many digits 0 .. 9 (SLICK, PACE by PACE)")
    private static void p02_slicks_are_0_to_9() {
        GlassHill x = built("a8012345" + "89,r000");
        int[] slicks = {0, 1, 2, 3, 4, 5, 8, 9};
        for (int p = 0; p < 8; p++) {
            due("slick of " + p, x.ofPace(p, 0), slicks[p]);
        }
        noTextGoesOn(2, 47, 58, 44, -1, '3' + 256);
        noTextGoesOn(3, 47, 58, 44, -1, '3' + 65536);
    }

    @Says("then 1 to 5 RIDERS, numbered from 0 on")
    private static void p02_no_rider_is_too_few() {
        due("a234", hillOf("a234"), -104);
        due("a234,", hillOf("a234,"), -105);
    }

    @Says("then 1 to 5 RIDERS, numbered from 0 on")
    private static void p02_riders_are_1_to_5() {
        for (int riders = 1; riders <= 5; riders++) {
            String text = FIVE.substring(0, 4 + 5 * riders);
            due(text, hillOf(text), riders);
            GlassHill x = built(text);
            due("many(0)", x.many(0), riders);
            due("the last", x.ofRider(riders - 1, 2), new int[] {3, 6, 9, 0, 9}[riders - 1]);
            due("beyond", x.ofRider(riders, 2), UNKNOWN);
        }
    }

    @Says("(Codes: a 97, r 114, n 110, l 108, comma 44, digits 48 .. 57.)")
    private static void p02_a_rider_begins_with_44() {
        noTextGoesOn(4, 43, 45, 48, 57, 59, 44 + 256);
        noTextGoesOn(9, 43, 45, 48, 57, 59, 44 - 256);
        noTextGoesOn(14, 43, 45, 48, 57, 59, 0);
    }

    @Says("(Codes: a 97, r 114, n 110, l 108, comma 44, digits 48 .. 57.)")
    private static void p02_his_letter_is_114_110_108() {
        textGoesOn(5, 114, 110, 108);
        noTextGoesOn(5, 113, 115, 109, 111, 107, 82, 97, 48, 44, 114 + 256);
        textGoesOn(15, 114, 110, 108);
        noTextGoesOn(15, 113, 115, 109, 111, 107, 78, 76, 110 - 65536);
    }

    @Says("two digits (SPEED: 00 .. 99)")
    private static void p02_speed_is_00_to_99() {
        GlassHill x = built("a234,r000,r990,r090,r900");
        int[] speeds = {0, 99, 9, 90};
        for (int r = 0; r < 4; r++) {
            due("speed of " + r, x.ofRider(r, 1), speeds[r]);
        }
        noTextGoesOn(6, 47, 58, 44, -1);
        noTextGoesOn(7, 47, 58, 44, -1);
    }

    @Says("a digit 0 .. 9 (NAILS)")
    private static void p02_nails_are_0_to_9() {
        GlassHill x = built("a234,r120,r129");
        due("nails of 0", x.ofRider(0, 2), 0);
        due("nails of 1", x.ofRider(1, 2), 9);
        noTextGoesOn(8, 47, 58, 44, -1);
        noTextGoesOn(18, 47, 58, 44, -1);
    }

    @Says("Kinds: 0 RIDER (r); 1 NIGHT (n), a RIDER; 2 LAD (l), a NIGHT.")
    private static void p02_kinds_are_0_to_2() {
        GlassHill x = built(TEXT);
        for (int r = 0; r < 3; r++) {
            due("kind of " + r, x.ofRider(r, 0), r);
        }
    }

    @Says("FIRST FAULT: the place (from 0 on) of the first code with which no TEXT goes on")
    private static void p02_the_first_of_several_faults() {
        due("at 0 and 1", hillOf("b134,r123"), -100);
        due("at 3 and 5", hillOf("a23x,x123"), -103);
        due("at 8, and it ends too soon", hillOf("a234,r12x,n4"), -108);
        due("at the last place", hillOf("a234,r12x"), -108);
        due("one code alone", hillOf("b"), -100);
    }

    @Says("(the , of a sixth RIDER)")
    private static void p02_the_comma_of_a_sixth_rider() {
        due("five", hillOf(FIVE), 5);
        due("a sixth", hillOf(FIVE + ",r123"), -129);
        due("its comma alone", hillOf(FIVE + ","), -129);
        due("of 8 paces", hillOf("a801234567" + FIVE.substring(4) + ",l000"), -135);
    }

    @Says("with which no TEXT goes on")
    private static void p02_any_code_behind_five_riders() {
        due("a digit", hillOf(FIVE + "0"), -129);
        due("a letter", hillOf(FIVE + "r"), -129);
        due("a code 0", hillOf(BYTES, Arrays.copyOf(FIVE.chars().toArray(), 30)), -129);
        due("60 codes", hillOf(BYTES, Arrays.copyOf(FIVE.chars().toArray(), 60)), -129);
    }

    @Says("with which no TEXT goes on")
    private static void p02_a_code_behind_a_rider_that_is_no_comma() {
        due("a digit", hillOf("a234,r1234"), -109);
        due("a letter", hillOf("a234,r123r"), -109);
    }

    @Says("how many codes there are, if it just ends too soon")
    private static void p02_it_just_ends_too_soon() {
        for (int n = 1; n < FIVE.length(); n++) {
            boolean whole = n > 4 && (n - 4) % 5 == 0;
            due(FIVE.substring(0, n), hillOf(FIVE.substring(0, n)), whole ? (n - 4) / 5 : -100 - n);
        }
    }

    @Says("how many codes there are, if it just ends too soon")
    private static void p02_no_codes_end_too_soon() {
        due("no codes of none", hillOf(""), -100);
        GlassHill x = full();
        due("no codes of 19", x.hill(0, BYTES, 0, 0), -100);
        due("no codes, cells of other texts around", x.hill(0, BYTES, 20, 0), -100);
    }

    @Says("A TEXT that is taken makes all anew, but for the SHEETS and TRACE: no SCRATCHES ahead, no READINGS.")
    private static void p02_no_scratches_ahead_behind_a_text() {
        GlassHill x = built("a812345678,r000");
        for (int p = 0; p < 8; p++) {
            x.scratch(p, 9);
        }
        due("the same again", x.hill(0, BYTES, 0, 15), 1);
        for (int p = 0; p < 8; p++) {
            due("scratches of " + p, x.ofPace(p, 1), 0);
        }
    }

    @Says("A TEXT that is taken makes all anew, but for the SHEETS and TRACE: no SCRATCHES ahead, no READINGS.")
    private static void p02_no_readings_behind_a_text() {
        GlassHill x = full();
        due("hill", x.hill(0, BYTES, 0, 20), 3);
        due("many(2)", x.many(2), 0);
        due("back(1)", x.back(1), OUTSIDE);
        due("the next is the first", x.reading(0, 0), 0);
    }

    @Says("A TEXT that is taken makes all anew, but for the SHEETS and TRACE: no SCRATCHES ahead, no READINGS.")
    private static void p02_speeds_nails_and_riders_anew() {
        GlassHill x = full();
        x.speed(2, 1);
        due("hill", x.hill(0, BYTES, 0, 20), 3);
        due("speed of 0", x.ofRider(0, 1), 12);
        due("nails of 1", x.ofRider(1, 2), 6);
        due("speed of 2", x.ofRider(2, 1), 78);
        due("fewer", hillBy(x, "a211,n010"), 1);
        due("many(0)", x.many(0), 1);
        due("many(1)", x.many(1), 2);
        due("rider 1", x.ofRider(1, 0), UNKNOWN);
        due("pace 2", x.ofPace(2, 0), UNKNOWN);
    }

    @Says("A TEXT that is taken makes all anew, but for the SHEETS and TRACE: no SCRATCHES ahead, no READINGS.")
    private static void p02_sheets_and_trace_stay() {
        GlassHill x = full();
        int trace = x.trace();
        due("hill", x.hill(0, BYTES, 0, 20), 3);
        due("trace()", x.trace(), trace);
        due("sheet 0", x.cell(0, 0, BYTES), 'a');
        due("sheet 1", x.cell(1, 4, INTS), 2);
        row(x, 2, SHORTS, 9, -300);
        due("sheet 3", x.lose(3), 0);
    }

    @Says("they change nothing (but fault(), of a call that names FAULTS)")
    private static void p02_a_text_with_a_fault_changes_nothing() {
        String[] texts = {"", "b", "a3579,r12", "a3579,r123,n456,x", FIVE + ",r000"};
        for (String text : texts) {
            int place = text.startsWith("b") ? 0 : text.endsWith("x") ? 16 : Math.min(29, text.length());
            keeps("hill by " + text, x -> {
                write(x, 3, INTS, text.chars().toArray());
                x.put(3, 60, 0);
            }, x -> x.hill(3, INTS, 0, text.length()), -100 - place, 0);
        }
    }

    @Says("A HILL by a TEXT of n cells of a SHEET from i on, taken as a row of a LANE: how many RIDERS")
    private static void p02_n_cells_from_i_on_of_each_lane() {
        int[] row = ("9,a" + TEXT + ",r5").chars().toArray();
        for (int lane = BYTES; lane <= INTS; lane++) {
            GlassHill x = new GlassHill();
            write(x, 3, lane, row);
            due("from 3 on", x.hill(3, lane, 3, 19), 3);
            due("its first pace", x.ofPace(0, 0), 3);
            due("its last nails", x.ofRider(2, 2), 9);
            due("from 2 on", x.hill(3, lane, 2, 19), -101);
            due("one fewer", x.hill(3, lane, 3, 18), -118);
            due("one more", x.hill(3, lane, 3, 20), -120);
            due("two riders", x.hill(3, lane, 3, 14), 2);
        }
    }

    @Says("A HILL by a TEXT of n cells of a SHEET from i on, taken as a row of a LANE: how many RIDERS")
    private static void p02_the_last_cells_of_the_longest_sheet() {
        int[] row = new int[60];
        System.arraycopy(TEXT.chars().toArray(), 0, row, 41, 19);
        GlassHill x = new GlassHill();
        write(x, 1, SHORTS, row);
        due("from 41 on", x.hill(1, SHORTS, 41, 19), 3);
    }

    @Says("UNKNOWN; OUTSIDE: lane; FAULTS CAST (nothing is no CAST), NULL, SIZE: n is below 0, INDEX: not all cells are there; -100 less it.")
    private static void p02_a_sheet_that_there_is_not() {
        for (int k : NO_SHEETS) {
            refused("hill of " + k, x -> x.hill(k, BYTES, 0, 20), UNKNOWN);
        }
    }

    @Says("OUTSIDE: lane; FAULTS CAST (nothing is no CAST), NULL, SIZE")
    private static void p02_a_lane_that_there_is_not() {
        for (int lane : NO_LANES) {
            refused("hill, lane " + lane, x -> x.hill(0, lane, 0, 20), OUTSIDE);
        }
    }

    @Says("REFUSALS, in the order in which a call's line tells them: UNKNOWN")
    private static void p02_unknown_ahead_of_outside_ahead_of_faults() {
        for (int k : NO_SHEETS) {
            refused("hill of " + k + ", lane 3", x -> x.hill(k, 3, 0, 20), UNKNOWN);
            refused("hill of " + k + ", n -1", x -> x.hill(k, BYTES, 0, -1), UNKNOWN);
        }
        for (int lane : NO_LANES) {
            refused("of nothing, lane " + lane, x -> x.hill(3, lane, 0, 20), OUTSIDE);
            refused("n -1, lane " + lane, x -> x.hill(0, lane, 0, -1), OUTSIDE);
            refused("i -1, lane " + lane, x -> x.hill(0, lane, -1, 20), OUTSIDE);
        }
    }

    @Says("Of a call the first that is come to, in the order told")
    private static void p02_faults_in_the_order_told() {
        faulted("CAST ahead of SIZE", x -> x.hill(0, INTS, 0, -1), CAST);
        faulted("CAST ahead of INDEX", x -> x.hill(0, INTS, -1, 20), CAST);
        for (int lane = BYTES; lane <= INTS; lane++) {
            int asked = lane;
            faulted("NULL ahead of SIZE", x -> x.hill(3, asked, 0, -1), NULL);
            faulted("NULL ahead of INDEX", x -> x.hill(3, asked, -1, 20), NULL);
        }
        faulted("SIZE ahead of INDEX", x -> x.hill(0, BYTES, -1, -1), SIZE);
        faulted("SIZE ahead of INDEX", x -> x.hill(0, BYTES, 21, LEAST), SIZE);
        faulted("INDEX ahead of the FIRST FAULT", x -> x.hill(2, SHORTS, 0, 3), INDEX);
    }

    @Says("FAULTS CAST (nothing is no CAST), NULL, SIZE: n is below 0, INDEX")
    private static void p02_a_sheet_of_another_lane() {
        faulted("bytes as shorts", x -> x.hill(0, SHORTS, 0, 20), CAST);
        faulted("bytes as ints", x -> x.hill(0, INTS, 0, 20), CAST);
        faulted("ints as bytes", x -> x.hill(1, BYTES, 0, 0), CAST);
        faulted("shorts as bytes", x -> x.hill(2, BYTES, 0, 0), CAST);
        faulted("shorts as ints", x -> x.hill(2, INTS, 0, 0), CAST);
    }

    @Says("CAST (nothing is no CAST), NULL, SIZE")
    private static void p02_nothing_is_no_cast() {
        for (int lane = BYTES; lane <= INTS; lane++) {
            int asked = lane;
            faulted("nothing", x -> x.hill(3, asked, 0, 0), NULL);
        }
    }

    @Says("SIZE: n is below 0")
    private static void p02_n_is_below_0() {
        faulted("n -1", x -> x.hill(0, BYTES, 0, -1), SIZE);
        faulted("n least", x -> x.hill(0, BYTES, 20, LEAST), SIZE);
    }

    @Says("INDEX: not all cells are there")
    private static void p02_not_all_cells_are_there() {
        faulted("one too many", x -> x.hill(0, BYTES, 0, 21), INDEX);
        faulted("one too far", x -> x.hill(0, BYTES, 1, 20), INDEX);
        faulted("i -1", x -> x.hill(0, BYTES, -1, 20), INDEX);
        faulted("i least", x -> x.hill(0, BYTES, LEAST, 20), INDEX);
        faulted("both most", x -> x.hill(0, BYTES, MOST, MOST), INDEX);
        faulted("n most", x -> x.hill(0, BYTES, 1, MOST), INDEX);
        faulted("i most", x -> x.hill(0, BYTES, MOST, 1), INDEX);
    }

    @Says("INDEX (of cells from i on also where i is not 0 .. how many there are, if none of them is taken, too)")
    private static void p02_index_if_none_is_taken() {
        faulted("i -1", x -> x.hill(0, BYTES, -1, 0), INDEX);
        faulted("i 21", x -> x.hill(0, BYTES, 21, 0), INDEX);
        faulted("i most", x -> x.hill(0, BYTES, MOST, 0), INDEX);
        faulted("i least", x -> x.hill(0, BYTES, LEAST, 0), INDEX);
        keeps("i 20", x -> meet(x, NULL), x -> x.hill(0, BYTES, 20, 0), -100, 0);
    }

    // ---- promise 3: ofPace

    @Says("Of a PACE: 0 how SLICK, 1 SCRATCHES ahead.")
    private static void p03_of_the_first_and_the_last_pace() {
        GlassHill x = built("a890000005,r000");
        x.scratch(0, 9);
        x.scratch(7, 3);
        due("slick of 0", x.ofPace(0, 0), 9);
        due("slick of 7", x.ofPace(7, 0), 5);
        due("scratches of 0", x.ofPace(0, 1), 9);
        due("scratches of 7", x.ofPace(7, 1), 3);
    }

    @Says("UNKNOWN (there is no such RIDER, PACE, SHEET, place)")
    private static void p03_a_pace_that_there_is_not() {
        for (int p : NO_PACES) {
            refusedBesideFaults("ofPace " + p, x -> x.ofPace(p, 0), UNKNOWN);
        }
    }

    @Says("OUTSIDE (another number is not as told)")
    private static void p03_what_is_0_or_1() {
        for (int what : new int[] {-1, 2, MOST, LEAST}) {
            refusedBesideFaults("what " + what, x -> x.ofPace(0, what), OUTSIDE);
        }
    }

    @Says("REFUSALS, in the order in which a call's line tells them: UNKNOWN")
    private static void p03_unknown_ahead_of_outside() {
        refusedBesideFaults("ofPace 3, 2", x -> x.ofPace(3, 2), UNKNOWN);
    }

    // ---- promise 4: ofRider

    @Says("Of a RIDER: 0 kind, 1 SPEED, 2 NAILS.")
    private static void p04_of_the_first_and_the_last_rider() {
        GlassHill x = built("a200,l990,r000,r000,r000,n018");
        int[][] told = {{2, 99, 0}, {}, {}, {}, {1, 1, 8}};
        for (int r = 0; r < 5; r += 4) {
            for (int what = 0; what < 3; what++) {
                due("ofRider " + r + ", " + what, x.ofRider(r, what), told[r][what]);
            }
        }
    }

    @Says("UNKNOWN (there is no such RIDER, PACE, SHEET, place)")
    private static void p04_a_rider_that_there_is_not() {
        for (int r : NO_RIDERS) {
            refusedBesideFaults("ofRider " + r, x -> x.ofRider(r, 0), UNKNOWN);
        }
    }

    @Says("OUTSIDE (another number is not as told)")
    private static void p04_what_is_0_to_2() {
        for (int what : new int[] {-1, 3, MOST, LEAST}) {
            refusedBesideFaults("what " + what, x -> x.ofRider(0, what), OUTSIDE);
        }
    }

    @Says("REFUSALS, in the order in which a call's line tells them: UNKNOWN")
    private static void p04_unknown_ahead_of_outside() {
        refusedBesideFaults("ofRider 3, 3", x -> x.ofRider(3, 3), UNKNOWN);
    }

    // ---- promise 5: scratch

    @Says("A PACE has v SCRATCHES ahead (0 .. 9): how many it had.")
    private static void p05_v_is_0_to_9() {
        GlassHill x = full();
        due("9", x.scratch(2, 9), 4);
        due("0", x.scratch(2, 0), 9);
        due("7", x.scratch(2, 7), 0);
        due("left", x.ofPace(2, 1), 7);
        due("the pace beside", x.ofPace(1, 1), 0);
        for (int v : new int[] {-1, 10, MOST, LEAST}) {
            refusedBesideFaults("v " + v, y -> y.scratch(2, v), OUTSIDE);
        }
    }

    @Says("UNKNOWN (there is no such RIDER, PACE, SHEET, place)")
    private static void p05_a_pace_that_there_is_not() {
        for (int p : NO_PACES) {
            refusedBesideFaults("scratch " + p, x -> x.scratch(p, 1), UNKNOWN);
        }
    }

    @Says("REFUSALS, in the order in which a call's line tells them: UNKNOWN")
    private static void p05_unknown_ahead_of_outside() {
        refusedBesideFaults("scratch 3, 10", x -> x.scratch(3, 10), UNKNOWN);
    }

    // ---- promise 6: speed

    @Says("The SPEED of a RIDER becomes v (0 .. 99): what it was.")
    private static void p06_v_is_0_to_99() {
        GlassHill x = full();
        due("99", x.speed(1, 99), 45);
        due("0", x.speed(1, 0), 99);
        due("50", x.speed(1, 50), 0);
        due("left", x.ofRider(1, 1), 50);
        due("the rider beside", x.ofRider(0, 1), 7);
        for (int v : new int[] {-1, 100, MOST, LEAST}) {
            refusedBesideFaults("v " + v, y -> y.speed(1, v), OUTSIDE);
        }
    }

    @Says("UNKNOWN (there is no such RIDER, PACE, SHEET, place)")
    private static void p06_a_rider_that_there_is_not() {
        for (int r : NO_RIDERS) {
            refusedBesideFaults("speed " + r, x -> x.speed(r, 1), UNKNOWN);
        }
    }

    @Says("REFUSALS, in the order in which a call's line tells them: UNKNOWN")
    private static void p06_unknown_ahead_of_outside() {
        refusedBesideFaults("speed 3, 100", x -> x.speed(3, 100), UNKNOWN);
    }

    // ---- promise 7: shoe

    @Says("NAILS of a RIDER become v (0 .. 9): what they were.")
    private static void p07_v_is_0_to_9() {
        GlassHill x = full();
        due("9", x.shoe(1, 9), 3);
        due("0", x.shoe(1, 0), 9);
        due("5", x.shoe(1, 5), 0);
        due("left", x.ofRider(1, 2), 5);
        due("the rider beside", x.ofRider(0, 2), 3);
        for (int v : new int[] {-1, 10, MOST, LEAST}) {
            refusedBesideFaults("v " + v, y -> y.shoe(1, v), OUTSIDE);
        }
    }

    @Says("UNKNOWN (there is no such RIDER, PACE, SHEET, place)")
    private static void p07_a_rider_that_there_is_not() {
        for (int r : NO_RIDERS) {
            refusedBesideFaults("shoe " + r, x -> x.shoe(r, 1), UNKNOWN);
        }
    }

    @Says("REFUSALS, in the order in which a call's line tells them: UNKNOWN")
    private static void p07_unknown_ahead_of_outside() {
        refusedBesideFaults("shoe 3, 10", x -> x.shoe(3, 10), UNKNOWN);
    }

    // ---- promise 8: takes

    @Says("how SLICK it is, less its SCRATCHES, less his NAILS (0 at least)")
    private static void p08_of_a_rider_0_at_least() {
        GlassHill x = built("a245,r002");
        int[] due = {2, 1, 0, 0, 0, 0, 0, 0, 0, 0};
        for (int s = 0; s <= 9; s++) {
            due("with " + s, x.takes(0, 0, s), due[s]);
        }
        x = built("a290,r000,r009");
        due("the most", x.takes(0, 0, 0), 9);
        due("nails alone", x.takes(1, 0, 0), 0);
        due("scratches alone", x.takes(0, 0, 9), 0);
        due("beyond both", x.takes(1, 0, 9), 0);
        due("slick 0", x.takes(0, 1, 0), 0);
    }

    @Says("of a NIGHT one 1 less than of a RIDER like him (0 at least)")
    private static void p08_of_a_night_0_at_least() {
        GlassHill x = built("a245,n002");
        int[] due = {1, 0, 0, 0, 0, 0, 0, 0, 0, 0};
        for (int s = 0; s <= 9; s++) {
            due("with " + s, x.takes(0, 0, s), due[s]);
        }
        due("slick 0", built("a200,n000").takes(0, 0, 0), 0);
    }

    @Says("of a LAD as of a RIDER.")
    private static void p08_of_a_lad_as_of_a_rider() {
        GlassHill x = built("a245,l002");
        int[] due = {2, 1, 0, 0, 0, 0, 0, 0, 0, 0};
        for (int s = 0; s <= 9; s++) {
            due("with " + s, x.takes(0, 0, s), due[s]);
        }
    }

    @Says("What a PACE TAKES of a RIDER, with so many SCRATCHES (0 .. 9).")
    private static void p08_with_so_many_scratches_in_place_of_those_laid() {
        GlassHill x = built("a279,r000");
        x.scratch(0, 5);
        due("with 0", x.takes(0, 0, 0), 7);
        due("with 3, the last pace", x.takes(0, 1, 3), 6);
        due("those laid stay", x.ofPace(0, 1), 5);
        for (int s : new int[] {-1, 10, MOST, LEAST}) {
            refusedBesideFaults("with " + s, y -> y.takes(0, 0, s), OUTSIDE);
        }
    }

    @Says("UNKNOWN: RIDER, PACE; OUTSIDE.")
    private static void p08_a_rider_that_there_is_not() {
        for (int r : NO_RIDERS) {
            refusedBesideFaults("takes " + r, x -> x.takes(r, 0, 0), UNKNOWN);
        }
    }

    @Says("UNKNOWN: RIDER, PACE; OUTSIDE.")
    private static void p08_a_pace_that_there_is_not() {
        for (int p : NO_PACES) {
            refusedBesideFaults("takes of pace " + p, x -> x.takes(0, p, 0), UNKNOWN);
        }
    }

    @Says("REFUSALS, in the order in which a call's line tells them: UNKNOWN")
    private static void p08_unknown_ahead_of_outside() {
        refusedBesideFaults("rider 3", x -> x.takes(3, 0, 10), UNKNOWN);
        refusedBesideFaults("pace 3", x -> x.takes(0, 3, 10), UNKNOWN);
        refusedBesideFaults("both", x -> x.takes(-1, -1, -1), UNKNOWN);
    }

    // ---- promises 9, 16 to 20: calls that take days

    /** What the document asks of each call by days; ofRain: its answer by days of rain alone. */
    private record ByDays(String name, int most, boolean isLong, long ofRain, OfCells call) {
        void refuses(int k, int lane, int i, int n, int answer) {
            refused(told(k, lane, i, n), x -> call.on(x, k, lane, i, n), isLong ? LOST : answer);
        }

        void faults(int k, int lane, int i, int n, int number) {
            faulted(told(k, lane, i, n), x -> call.on(x, k, lane, i, n),
                    isLong ? LOST : -10 - number, number);
        }

        private String told(int k, int lane, int i, int n) {
            return name + " of sheet " + k + ", lane " + lane + ", i " + i + ", n " + n;
        }

        /** By a hill without readings, of rain alone; then by no steps. */
        void takes(GlassHill x, int k, int lane, int i, int n) {
            due(told(k, lane, i, n), call.on(x, k, lane, i, n), ofRain);
            due("then fault()", x.fault(), 0);
        }

        void sheetsThatThereAreNot() {
            for (int k : NO_SHEETS) {
                refuses(k, INTS, 0, 3, UNKNOWN);
            }
        }

        void lanesThatThereAreNot() {
            for (int lane : NO_LANES) {
                refuses(1, lane, 0, 3, OUTSIDE);
            }
        }

        void stepsTooFewOrTooMany() {
            for (int n : new int[] {-1, most + 1, MOST, LEAST}) {
                refuses(1, INTS, 0, n, OUTSIDE);
                refuses(1, INTS, 4, n, OUTSIDE);
            }
        }

        void unknownAheadOfOutsideAheadOfFaults() {
            for (int k : NO_SHEETS) {
                refuses(k, 3, 0, 3, UNKNOWN);
                refuses(k, INTS, 0, most + 1, UNKNOWN);
                refuses(k, INTS, 0, -1, UNKNOWN);
            }
            refuses(3, 3, 0, 3, OUTSIDE);
            refuses(1, 3, -1, 3, OUTSIDE);
            for (int n : new int[] {-1, most + 1}) {
                refuses(3, INTS, 0, n, OUTSIDE);
                refuses(1, BYTES, 0, n, OUTSIDE);
                refuses(1, INTS, -1, n, OUTSIDE);
            }
        }

        void noStepsAndTheMost() {
            for (int lane = BYTES; lane <= INTS; lane++) {
                GlassHill x = built("a255,r000,r000,r000");
                write(x, 2, lane, rains(60));
                takes(x, 2, lane, 0, 0);
                takes(x, 2, lane, 60, 0);
                takes(x, 2, lane, 0, most);
                takes(x, 2, lane, 60 - most, most);
                x.sheet(2, lane, 0);
                takes(x, 2, lane, 0, 0);
            }
        }

        void sheetsOfAnotherLane() {
            faults(0, SHORTS, 0, 1, CAST);
            faults(0, INTS, 0, 1, CAST);
            faults(1, BYTES, 0, 1, CAST);
            faults(1, SHORTS, 0, 1, CAST);
            faults(2, BYTES, 0, 1, CAST);
            faults(2, INTS, 0, 1, CAST);
        }

        void nothingIsNoCast() {
            for (int lane = BYTES; lane <= INTS; lane++) {
                faults(3, lane, 0, 1, NULL);
                faults(3, lane, 0, 0, NULL);
            }
        }

        void cellsThatThereAreNot() {
            faults(1, INTS, 34, 2, INDEX);
            faults(1, INTS, 35, 1, INDEX);
            faults(1, INTS, 36 - most, most, INDEX);
            faults(1, INTS, -1, 3, INDEX);
            faults(1, INTS, LEAST, most, INDEX);
            faults(1, INTS, MOST, 1, INDEX);
            faults(1, INTS, MOST, most, INDEX);
        }

        void noneOfTheCellsIsTaken() {
            faults(1, INTS, -1, 0, INDEX);
            faults(1, INTS, 36, 0, INDEX);
            faults(1, INTS, MOST, 0, INDEX);
            faults(1, INTS, LEAST, 0, INDEX);
            GlassHill x = built("a255,r000,r000,r000");
            write(x, 1, INTS, RAIN);
            takes(x, 1, INTS, 1, 0);
        }

        void stepsOfNoRider() {
            for (int step : new int[] {-1, 3, 4, 6, 256, MOST, LEAST}) {
                stepIsOfNoRider(step, x -> x.put(1, 4, step), 4, 1);
                stepIsOfNoRider(step, x -> x.put(1, 4, step), 2, 3);
                stepIsOfNoRider(step, x -> x.put(1, 4, step), 4, 3);
            }
        }

        void stepsOfNoRiderBehindAWrongOne() {
            stepIsOfNoRider(3, x -> write(x, 1, INTS, 0, 0, 3), 0, 3);
            stepIsOfNoRider(-1, x -> write(x, 1, INTS, 0, 0, 5, -1, 5), 0, 5);
            stepIsOfNoRider(6, x -> write(x, 1, INTS, 1, 1, 1, 1, 1, 1, 1, 1, 1, 6), 0, 10);
        }

        private void stepIsOfNoRider(int step, Consumer<GlassHill> ahead, int i, int n) {
            keeps(name + ", a step " + step + " of " + i + ", " + n, x -> {
                ahead.accept(x);
                meet(x, NULL);
            }, x -> call.on(x, 1, INTS, i, n), isLong ? LOST : UNKNOWN, 0);
        }

        void faultsInTheOrderTold() {
            for (int lane = BYTES; lane <= INTS; lane++) {
                faults(3, lane, -1, 3, NULL);
                faults(3, lane, 61, most, NULL);
            }
            faults(1, BYTES, -1, 3, CAST);
            faults(1, SHORTS, 36, 0, CAST);
            faults(0, INTS, 0, most, CAST);
            keeps(name + ", a step -1, and beyond", x -> {
                write(x, 1, INTS, -1, -1);
                meet(x, NULL);
            }, x -> call.on(x, 1, INTS, 0, 3), isLong ? LOST : -10 - INDEX, INDEX);
        }

        void cellsAroundAreNoSteps() {
            GlassHill x = built("a255,r000,r000,r000");
            write(x, 1, INTS, -1, RAIN, RAIN, 6);
            takes(x, 1, INTS, 1, 2);
            takes(x, 1, INTS, 0, 0);
            takes(x, 1, INTS, 4, 0);
        }
    }

    private static final ByDays DAYS = new ByDays("days", 30, false, 0,
            (x, k, lane, i, n) -> x.days(k, lane, i, n, 0));
    private static final ByDays SPEEDS = new ByDays("speeds", 30, false, 100,
            (x, k, lane, i, n) -> x.speeds(0, k, lane, i, n, 0));
    private static final ByDays NAILS = new ByDays("nails", 30, false, 1023,
            (x, k, lane, i, n) -> x.nails(0, k, lane, i, n));
    private static final ByDays SLICKS = new ByDays("slicks", 30, false, 1023,
            (x, k, lane, i, n) -> x.slicks(0, k, lane, i, n));
    private static final ByDays KINDS = new ByDays("kinds", 30, false, 7,
            (x, k, lane, i, n) -> x.kinds(0, k, lane, i, n));
    private static final ByDays ODDS = new ByDays("odds", 10, true, 0,
            (x, k, lane, i, n) -> x.odds(0, k, lane, i, n, 0));

    // ---- promise 9: days

    @Says("UNKNOWN: SHEET; OUTSIDE: lane, n (0 .. 30), what (0 .. 2, 10 .. 17, 20 .. 24)")
    private static void p09_a_sheet_that_there_is_not() {
        DAYS.sheetsThatThereAreNot();
    }

    @Says("OUTSIDE: lane, n (0 .. 30), what (0 .. 2, 10 .. 17, 20 .. 24)")
    private static void p09_a_lane_that_there_is_not() {
        DAYS.lanesThatThereAreNot();
    }

    @Says("OUTSIDE: lane, n (0 .. 30), what (0 .. 2, 10 .. 17, 20 .. 24)")
    private static void p09_n_below_0_or_above_30() {
        DAYS.stepsTooFewOrTooMany();
    }

    @Says("OUTSIDE: lane, n (0 .. 30), what (0 .. 2, 10 .. 17, 20 .. 24)")
    private static void p09_n_0_and_30() {
        DAYS.noStepsAndTheMost();
        int[] steps = rains(30);
        steps[29] = 1;
        GlassHill x = built("a200,r000,r000");
        due("the 30th step", days(x, 2, steps), 29);
        due("up by it", days(x, 0, steps), 2);
        steps[28] = 1;
        due("the 30th step is wrong", days(x, 1, steps), 29);
        steps[29] = 2;
        due("the 30th step is of no rider", days(x, 1, steps), UNKNOWN);
        due("no steps", days(x, 0), 0);
    }

    @Says("OUTSIDE: lane, n (0 .. 30), what (0 .. 2, 10 .. 17, 20 .. 24)")
    private static void p09_what_that_is_not_told() {
        for (int what : new int[] {-1, 3, 9, 18, 19, 25, MOST, LEAST}) {
            refused("what " + what, x -> x.days(1, INTS, 0, 2, what), OUTSIDE);
            refused("of nothing, what " + what, x -> x.days(3, INTS, 0, 2, what), OUTSIDE);
        }
    }

    @Says("OUTSIDE: lane, n (0 .. 30), what (0 .. 2, 10 .. 17, 20 .. 24)")
    private static void p09_what_that_is_told() {
        GlassHill x = built("a899999999,r000,r000,r000,r000,r000");
        int[] whats = {0, 1, 2, 10, 11, 12, 13, 14, 15, 16, 17, 20, 21, 22, 23, 24};
        int[] due = {0, NONE, NONE, 0, 0, 0, 0, 0, 0, 0, 0, 0, 0, 0, 0, 0};
        for (int w = 0; w < whats.length; w++) {
            due("what " + whats[w], days(x, whats[w], 0, 1, 2, 3, 4), due[w]);
        }
    }

    @Says("FAULTS CAST, NULL, INDEX; STATE: there is no HILL")
    private static void p09_a_sheet_of_another_lane() {
        DAYS.sheetsOfAnotherLane();
    }

    @Says("FAULTS CAST, NULL, INDEX; STATE: there is no HILL")
    private static void p09_a_sheet_that_has_nothing() {
        DAYS.nothingIsNoCast();
    }

    @Says("FAULTS CAST, NULL, INDEX; STATE: there is no HILL")
    private static void p09_not_all_cells_are_there() {
        DAYS.cellsThatThereAreNot();
    }

    @Says("REFUSALS, in the order in which a call's line tells them: UNKNOWN")
    private static void p09_unknown_ahead_of_outside_ahead_of_faults() {
        DAYS.unknownAheadOfOutsideAheadOfFaults();
    }

    @Says("Of a call the first that is come to, in the order told")
    private static void p09_faults_in_the_order_told() {
        DAYS.faultsInTheOrderTold();
    }

    @Says("INDEX (of cells from i on also where i is not 0 .. how many there are, if none of them is taken, too)")
    private static void p09_index_if_none_is_taken() {
        DAYS.noneOfTheCellsIsTaken();
    }

    @Says("STATE: there is no HILL; UNKNOWN: any STEP (also one behind a FIRST WRONG) is of no RIDER (5 may be).")
    private static void p09_there_is_no_hill() {
        GlassHill x = new GlassHill();
        write(x, 1, INTS, RAIN, 0, -1);
        due("rain", x.days(1, INTS, 0, 1, 0), STATE);
        due("no steps", x.days(1, INTS, 3, 0, 24), STATE);
        due("a try of nobody", x.days(1, INTS, 0, 2, 1), STATE);
        due("a step -1", x.days(1, INTS, 0, 3, 1), STATE);
        x.put(3, 0, 0);
        due("behind a fault", x.days(1, INTS, 0, 1, 0), STATE);
        due("then fault()", x.fault(), 0);
        due("sheet 4", x.days(4, INTS, 0, 1, 0), UNKNOWN);
        due("n 31", x.days(1, INTS, 0, 31, 0), OUTSIDE);
        due("CAST", x.days(1, SHORTS, 0, 1, 0), -10 - CAST);
        due("NULL", x.days(2, INTS, 0, 1, 0), -10 - NULL);
        due("INDEX", x.days(1, INTS, 0, 4, 0), -10 - INDEX);
    }

    @Says("UNKNOWN: any STEP (also one behind a FIRST WRONG) is of no RIDER (5 may be)")
    private static void p09_a_step_of_no_rider() {
        DAYS.stepsOfNoRider();
    }

    @Says("UNKNOWN: any STEP (also one behind a FIRST WRONG) is of no RIDER (5 may be)")
    private static void p09_a_step_of_no_rider_behind_a_first_wrong() {
        DAYS.stepsOfNoRiderBehindAWrongOne();
        GlassHill x = built("a200,r000");
        due("what 1, too", days(x, 1, 0, 0, 1), UNKNOWN);
        due("but for such a step", days(x, 1, 0, 0, 5), 1);
    }

    @Says("DAYS of n STEPS, that are cells of a SHEET from i on")
    private static void p09_cells_around_are_no_steps() {
        DAYS.cellsAroundAreNoSteps();
    }

    @Says("DAYS: a row of STEPS: 0 .. 4 that RIDER TRIES, 5 it RAINS")
    private static void p09_steps_0_to_4_try_and_5_rains() {
        GlassHill x = built("a200,r000,r000,r000,r000,r000");
        due("all", days(x, 0, 4, 3, 2, 1, 0), 31);
        for (int r = 0; r < 5; r++) {
            due("step " + r, days(x, 0, r), 1 << r);
        }
        due("step 5", days(x, 0, 5), 0);
        due("step 6", days(x, 0, 6), UNKNOWN);
        due("step -1", days(x, 0, -1), UNKNOWN);
    }

    @Says("it RAINS: each PACE has 1 SCRATCH less (0 at least)")
    private static void p09_rain_leaves_0_scratches_at_least() {
        GlassHill x = built("a800000000,r000");
        x.scratch(0, 1);
        x.scratch(6, 9);
        x.scratch(7, 2);
        int[] once = {0, 0, 0, 0, 0, 0, 8, 1};
        int[] thrice = {0, 0, 0, 0, 0, 0, 6, 0};
        for (int p = 0; p < 8; p++) {
            due("one rain, pace " + p, days(x, 10 + p, 5), once[p]);
            due("three rains, pace " + p, days(x, 10 + p, 5, 5, 5), thrice[p]);
        }
    }

    @Says("At first there are those SCRATCHES that were laid ahead, nobody has TRIED.")
    private static void p09_days_begin_with_those_laid_ahead() {
        GlassHill x = built("a259,r050");
        x.scratch(1, 9);
        due("none", days(x, 11), 9);
        x.scratch(1, 3);
        for (int again = 0; again < 3; again++) {
            due("a try", days(x, 10, 0), 1);
            due("laid", days(x, 11, 0), 3);
            due("still laid", x.ofPace(1, 1), 3);
            due("height", days(x, 20, 0), 1);
            due("nobody has tried", days(x, 20), NONE);
        }
    }

    @Says("his SPEED is as told, less 1 for each TRY that he made ahead (0 at least)")
    private static void p09_less_1_for_each_try_that_he_made_ahead() {
        GlassHill x = built("a299,r090,r000");
        due("his first", days(x, 20, 0), 1);
        due("his second, what he scratched polished", days(x, 20, 0, 5, 0), 0);
        due("behind another's", days(x, 20, 1, 1, 1, 0), 1);
    }

    @Says("his SPEED is as told, less 1 for each TRY that he made ahead (0 at least)")
    private static void p09_speed_is_0_at_least() {
        GlassHill x = built("a209,r010");
        due("speed 0", days(x, 20, 0, 0), 1);
        due("not below", days(x, 20, 0, 0, 0), 1);
        x.speed(0, 0);
        due("0 from the first on", days(x, 20, 0, 0, 0, 0), 1);
        due("its scratches", days(x, 10, 0, 0, 0, 0), 4);
    }

    @Says("as long as it TAKES no more than what he has left, he comes up it, and has so much less")
    private static void p09_it_takes_just_what_he_has_left() {
        GlassHill x = built("a255,r100");
        due("just all", days(x, 20, 0), 2);
        x.speed(0, 9);
        due("1 too little for the upper one", days(x, 20, 0), 1);
        x.speed(0, 5);
        due("just the lower one", days(x, 20, 0), 1);
        x.speed(0, 4);
        due("1 too little for the lower one", days(x, 20, 0), 0);
    }

    @Says("PACE by PACE from 0 on, as long as it TAKES no more than what he has left")
    private static void p09_nothing_behind_a_pace_that_takes_too_much() {
        GlassHill x = built("a390" + "0,r080");
        due("height", days(x, 20, 0), 0);
        for (int p = 0; p < 3; p++) {
            due("scratches of " + p, days(x, 10 + p, 0), 0);
        }
    }

    @Says("All of them: he is UP, and stays there; nothing is SCRATCHED.")
    private static void p09_nothing_is_scratched_by_one_who_is_up() {
        GlassHill x = built("a200,l000,r000");
        x.scratch(1, 2);
        due("pace 0", days(x, 10, 0, 1), 0);
        due("pace 1", days(x, 11, 0, 1), 2);
    }

    @Says("All of them: he is UP, and stays there; nothing is SCRATCHED.")
    private static void p09_who_is_up_stays_there() {
        GlassHill x = built("a255,r080,r050");
        x.scratch(0, 2);
        due("behind rain and others' tries", days(x, 0, 0, 5, 5, 1, 1, 5), 1);
        due("his height", days(x, 20, 0, 5, 5, 1, 1, 5), 2);
    }

    @Says("Else he slides back: each PACE that he came up has so many SCRATCHES more (9 at most).")
    private static void p09_scratches_are_9_at_most() {
        GlassHill x = built("a3009,r000,n000,l000");
        for (int r = 0; r < 3; r++) {
            x.scratch(0, 9);
            x.scratch(1, 8);
            x.scratch(2, 0);
            due("9 and more by " + r, days(x, 10, r), 9);
            due("8 and more by " + r, days(x, 11, r), 9);
            due("not come up by " + r, days(x, 12, r), 0);
        }
        x.scratch(0, 0);
        due("5 times 2", days(x, 10, 2, 2, 2, 2, 2), 9);
        due("and one rain", days(x, 10, 2, 2, 2, 2, 2, 5), 8);
    }

    @Says("SLIDING back, a RIDER leaves 1 SCRATCH, a NIGHT one, too; a LAD 2.")
    private static void p09_scratches_that_each_kind_leaves() {
        GlassHill x = built("a209,r000,n000,l000");
        due("rider", days(x, 10, 0), 1);
        due("night", days(x, 10, 1), 1);
        due("lad", days(x, 10, 2), 2);
        due("all", days(x, 10, 0, 1, 2), 4);
    }

    @Says("FIRST WRONG: the first STEP (numbered from 0 on) that is a TRY of one who is UP.")
    private static void p09_the_first_wrong_of_several() {
        GlassHill x = built("a200,r000,r000");
        due("step 1", days(x, 1, 0, 0, 0), 1);
        due("step 3", days(x, 1, 0, 5, 1, 1, 0), 3);
        due("none", days(x, 1, 0, 5, 1, 5), NONE);
        due("none of no steps", days(x, 1), NONE);
        x = built("a255,r090,r000");
        due("tries of one who is not up", days(x, 1, 0, 0, 0, 1, 1), NONE);
    }

    @Says("the FIRST WRONG (1; NONE)")
    private static void p09_no_first_wrong() {
        GlassHill x = built("a255,r100,r000");
        due("of no steps", days(x, 1), NONE);
        due("of rain", days(x, 1, 5, 5), NONE);
        due("of tries", days(x, 1, 1, 1, 0, 1), NONE);
        due("the first step is none", days(x, 1, 0), NONE);
    }

    @Says("HEIGHT: how many PACES he came up.")
    private static void p09_height_0_and_all() {
        GlassHill x = built("a899999999,r080,r720");
        due("0", days(x, 20, 0), 0);
        due("8", days(x, 21, 1), 8);
        x.speed(1, 71);
        due("7", days(x, 21, 1), 7);
    }

    @Says("Sets are told as bits (bit k for number k).")
    private static void p09_who_is_up_as_bits() {
        GlassHill x = built("a200,r000,r000,r000,r000,r000");
        due("nobody", days(x, 0, 5), 0);
        due("0", days(x, 0, 0), 1);
        due("4", days(x, 0, 4), 16);
        due("1, 3", days(x, 0, 3, 1), 10);
        due("all", days(x, 0, 0, 1, 2, 3, 4), 31);
    }

    @Says("of those with a FIRST WRONG: -100 less that (but what 1)")
    private static void p09_100_less_the_first_wrong() {
        GlassHill x = built("a200,r000,r000");
        for (int what : new int[] {0, 2, 10, 11, 20, 21}) {
            due("what " + what, days(x, what, 0, 0), -101);
            due("later, what " + what, days(x, what, 1, 5, 5, 0, 5, 1, 0), -105);
        }
        due("but what 1", days(x, 1, 0, 0), 1);
        due("then fault()", x.fault(), 0);
        int[] steps = rains(30);
        steps[0] = 0;
        steps[29] = 0;
        due("the last of 30", days(x, 0, steps), -129);
    }

    @Says("of those with a FIRST WRONG: -100 less that (but what 1)")
    private static void p09_100_less_it_also_of_a_pace_or_rider_that_there_is_not() {
        GlassHill x = built("a200,r000,r000");
        for (int what : new int[] {12, 17, 22, 24}) {
            due("what " + what, days(x, what, 0, 0), -101);
        }
    }

    @Says("the first STEP by which one is UP (2; NONE)")
    private static void p09_the_first_step_by_which_one_is_up() {
        GlassHill x = built("a255,r100,r100,r000");
        due("at once", days(x, 2, 1, 0), 0);
        due("behind rain and others", days(x, 2, 5, 2, 5, 1, 5, 0), 3);
        due("nobody", days(x, 2, 2, 5, 2), NONE);
        due("no steps", days(x, 2), NONE);
    }

    @Says("SCRATCHES of PACE p (10 and p; NONE: there is no such PACE)")
    private static void p09_scratches_of_no_such_pace() {
        for (int paces = 2; paces <= 8; paces++) {
            GlassHill x = built("a" + paces + "9".repeat(paces) + ",r000");
            for (int p = 0; p < 8; p++) {
                due(paces + " paces, what " + (10 + p), days(x, 10 + p, 0), p < paces ? 0 : NONE);
            }
        }
    }

    @Says("SCRATCHES of PACE p (10 and p; NONE: there is no such PACE)")
    private static void p09_no_such_pace_behind_a_hill_of_more() {
        GlassHill x = built("a800000000,r000,r000,r000,r000,r000");
        x.scratch(7, 5);
        hillBy(x, "a200,r000");
        due("pace 7", days(x, 17, 0), NONE);
        due("pace 2", days(x, 12, 0), NONE);
        due("rider 1", days(x, 21, 0), NONE);
        due("a step of rider 1", days(x, 0, 1), UNKNOWN);
    }

    @Says("HEIGHT of RIDER r in his last TRY (20 and r; NONE: he made none, there is no such RIDER)")
    private static void p09_height_of_one_who_made_no_try() {
        GlassHill x = built("a255,r050,r050");
        due("rider 0", days(x, 20, 1, 5, 1), NONE);
        due("rider 1", days(x, 21, 0, 5), NONE);
        due("of no steps", days(x, 20), NONE);
        due("height 0 is no NONE", days(x, 20, 5, 5, 0, 0, 5, 5, 0, 5, 5, 0), 0);
    }

    @Says("HEIGHT of RIDER r in his last TRY (20 and r; NONE: he made none, there is no such RIDER)")
    private static void p09_height_of_no_such_rider() {
        for (int riders = 1; riders <= 5; riders++) {
            GlassHill x = built("a299" + ",r000".repeat(riders));
            for (int r = 0; r < 5; r++) {
                int[] steps = {r < riders ? r : 5};
                due(riders + " riders, what " + (20 + r), days(x, 20 + r, steps), r < riders ? 0 : NONE);
            }
        }
    }

    @Says("HEIGHT of RIDER r in his last TRY (20 and r; NONE: he made none, there is no such RIDER)")
    private static void p09_height_in_his_last_try_of_several() {
        GlassHill x = built("a299,r090,r180");
        due("lower", days(x, 20, 0, 5, 0), 0);
        due("of one who is up", days(x, 21, 1), 2);
        x = built("a255,r060,l050");
        due("higher", days(x, 20, 0, 1, 1, 0), 2);
    }

    // ---- promise 10: fewest

    @Says("the fewest STEPS (6 at most; all of them TRIES, of any RIDERS) behind which he is UP")
    private static void p10_just_six() {
        // 5 short at first; each slide takes 1 of his speed and frees 1 on each of two paces.
        GlassHill x = built("a3999,r220");
        due("how many", x.fewest(0, -1), 6);
        for (int k = 0; k < 6; k++) {
            due("step " + k, x.fewest(0, k), 0);
        }
        due("step 6", x.fewest(0, 6), NONE);
    }

    @Says("(6 at most; all of them TRIES, of any RIDERS)")
    private static void p10_seven_are_too_many() {
        GlassHill x = built("a3999,r210");
        due("how many", x.fewest(0, -1), NONE);
        due("step 0", x.fewest(0, 0), NONE);
        x.scratch(2, 1);
        due("with one scratch", x.fewest(0, -1), 6);
    }

    @Says("(6 at most; all of them TRIES, of any RIDERS)")
    private static void p10_tries_of_any_riders() {
        GlassHill x = built("a255,r090,r000,r000,r000,r050");
        due("how many", x.fewest(0, -1), 2);
        due("step 0", x.fewest(0, 0), 4);
        due("step 1", x.fewest(0, 1), 0);
    }

    @Says("of several the first as a row")
    private static void p10_of_several_the_first_as_a_row() {
        GlassHill x = built("a255,r000,r050,r050,r090");
        due("how many", x.fewest(3, -1), 2);
        due("step 0", x.fewest(3, 0), 1);
        due("step 1", x.fewest(3, 1), 3);
        // He needs three scratches of others: a slide of his own takes as much as it frees.
        x = built("a244,r050,r040,r040");
        due("three needed", x.fewest(0, -1), 4);
        due("step 0", x.fewest(0, 0), 1);
        due("step 1", x.fewest(0, 1), 1);
        due("step 2", x.fewest(0, 2), 1);
        due("step 3", x.fewest(0, 3), 0);
    }

    @Says("NONE: by none.")
    private static void p10_by_none() {
        GlassHill x = built("a299,r000,r000");
        due("how many", x.fewest(0, -1), NONE);
        due("step 0", x.fewest(0, 0), NONE);
        due("step 5", x.fewest(1, 5), NONE);
    }

    @Says("NONE: by none.")
    private static void p10_by_none_of_five() {
        GlassHill x = built("a299,r000,r990,n000,r000,l000");
        due("the last one", x.fewest(4, -1), NONE);
        due("another", x.fewest(0, -1), NONE);
        due("one who is up", x.fewest(1, -1), 1);
    }

    @Says("All of them: he is UP, and stays there; nothing is SCRATCHED.")
    private static void p10_none_by_tries_of_one_who_is_up() {
        // 1 is up by his first try; would he slide by a second one, he would bring 0 up.
        GlassHill x = built("a255,r090,r100");
        due("of 0", x.fewest(0, -1), NONE);
        due("of 1", x.fewest(1, -1), 1);
    }

    @Says("(6 at most; all of them TRIES, of any RIDERS)")
    private static void p10_of_riders_that_there_are() {
        GlassHill x = built("a255,r050,l050,l050,l050,l050");
        due("by three of a lad", x.fewest(0, -1), 4);
        hillBy(x, "a255,r050");
        due("alone", x.fewest(0, -1), NONE);
    }

    @Says("FEWEST: how many (k -1), the k-th STEP (0 on); NONE: there are fewer, none.")
    private static void p10_there_are_fewer_than_k() {
        GlassHill x = built("a200,r000,r000");
        due("how many", x.fewest(1, -1), 1);
        due("step 0", x.fewest(1, 0), 1);
        for (int k : new int[] {1, 2, 5, 6, 7, MOST}) {
            due("step " + k, x.fewest(1, k), NONE);
        }
    }

    @Says("UNKNOWN: RIDER, k below -1.")
    private static void p10_k_below_minus_1() {
        refusedBesideFaults("k -2", x -> x.fewest(0, -2), UNKNOWN);
        refusedBesideFaults("k least", x -> x.fewest(0, LEAST), UNKNOWN);
    }

    @Says("UNKNOWN: RIDER, k below -1.")
    private static void p10_a_rider_that_there_is_not() {
        for (int r : NO_RIDERS) {
            refusedBesideFaults("fewest of " + r, x -> x.fewest(r, -1), UNKNOWN);
            refusedBesideFaults("a step of " + r, x -> x.fewest(r, 0), UNKNOWN);
        }
    }

    @Says("At first there are those SCRATCHES that were laid ahead, nobody has TRIED.")
    private static void p10_with_scratches_laid_ahead_which_stay() {
        GlassHill x = built("a299,r000");
        x.scratch(0, 9);
        x.scratch(1, 9);
        due("how many", x.fewest(0, -1), 1);
        due("laid", x.ofPace(0, 1), 9);
        x.scratch(1, 8);
        due("one scratch fewer", x.fewest(0, -1), NONE);
        x = built("a800000009,r080");
        x.scratch(7, 1);
        due("on the last of 8", x.fewest(0, -1), 1);
    }

    @Says("At first there are those SCRATCHES that were laid ahead, nobody has TRIED.")
    private static void p10_nothing_is_left_of_other_calls() {
        GlassHill x = built("a299,r180,l990");
        due("days", days(x, 0, 1, 5, 5), 2);
        due("fewest", x.fewest(0, -1), 1);
        due("game", x.game(1, 0, 3), 1);
        due("fewest again", x.fewest(0, -1), 1);
        due("of 1, who was up", x.fewest(1, -1), 1);
    }

    // ---- promise 11: sand

    @Says("SAND for a RIDER: the fewest PACES that are to be of no matter (TAKE nothing of him) so that he is UP by his first TRY")
    private static void p11_none_is_needed() {
        GlassHill x = built("a255,r100");
        due("just all his speed", x.sand(0), 0);
        x.speed(0, 9);
        due("1 too little", x.sand(0), 1);
    }

    @Says("the fewest PACES that are to be of no matter (TAKE nothing of him)")
    private static void p11_all_are_needed() {
        due("2 paces", built("a299,r000").sand(0), 3);
        due("8 paces", built("a811111111,r000").sand(0), 255);
        due("all but one that takes nothing", built("a811110111,r000").sand(0), 239);
    }

    @Says("the fewest PACES that are to be of no matter (TAKE nothing of him)")
    private static void p11_fewest_ahead_of_least() {
        // Paces 0 and 1 would do, too: the least as a number, but two of them.
        due("pace 2", built("a3448,r080").sand(0), 4);
        due("pace 7", built("a811111119,r070").sand(0), 128);
    }

    @Says("as a set: of several the least.")
    private static void p11_of_several_the_least() {
        due("one of three", built("a3555,r100").sand(0), 1);
        due("two of three", built("a3555,r050").sand(0), 3);
        due("not pace 0", built("a4155" + "5,r110").sand(0), 2);
    }

    @Says("(with SCRATCHES as laid ahead)")
    private static void p11_with_scratches_as_laid_ahead() {
        GlassHill x = built("a255,r090");
        due("none laid", x.sand(0), 1);
        x.scratch(1, 1);
        due("one laid", x.sand(0), 0);
        x.speed(0, 4);
        x.scratch(0, 2);
        x.scratch(1, 0);
        due("the cheaper one is left", x.sand(0), 2);
        due("laid", x.ofPace(0, 1), 2);
    }

    @Says("UNKNOWN (there is no such RIDER, PACE, SHEET, place)")
    private static void p11_a_rider_that_there_is_not() {
        for (int r : NO_RIDERS) {
            refusedBesideFaults("sand " + r, x -> x.sand(r), UNKNOWN);
        }
    }

    // ---- promise 12: game

    @Says("GAME of two RIDERS, n TURNS (0 .. 10)")
    private static void p12_n_0_to_10() {
        GlassHill x = built("a200,r000,r000");
        due("no turns", x.game(0, 1, 0), 0);
        due("one", x.game(0, 1, 1), 1);
        due("ten", x.game(0, 1, 10), 1);
        for (int n : new int[] {-1, 11, MOST, LEAST}) {
            refusedBesideFaults("n " + n, y -> y.game(0, 1, n), OUTSIDE);
        }
    }

    @Says("by turns, the first one first, each TRIES or waits")
    private static void p12_the_first_one_first() {
        GlassHill x = built("a255,r000,r100");
        due("the other one has no turn", x.game(0, 1, 1), 0);
        due("the other one has the second", x.game(0, 1, 2), 2);
        due("the first one has it", x.game(1, 0, 1), 1);
    }

    @Says("GAME of two RIDERS, n TURNS (0 .. 10)")
    private static void p12_the_last_turn_of_just_so_many() {
        // Up by his fifth try: turn 9 of the first one, turn 10 of the other one.
        GlassHill x = built("a3999,r000,r230");
        due("9 turns, first", x.game(1, 0, 9), 1);
        due("8 turns, first", x.game(1, 0, 8), 0);
        due("10 turns, other", x.game(0, 1, 10), 2);
        due("9 turns, other", x.game(0, 1, 9), 0);
        x.speed(1, 22);
        due("by his sixth", x.game(1, 0, 10), 0);
    }

    @Says("who is UP first, wins, and it is over")
    private static void p12_who_is_up_first_wins() {
        GlassHill x = built("a200,r000,r000");
        for (int n = 1; n <= 10; n++) {
            due("0 first", x.game(0, 1, n), 1);
            due("1 first", x.game(1, 0, n), 1);
        }
    }

    @Says("each would rather win than that nobody does, and rather that than that the other one does")
    private static void p12_he_waits_lest_the_other_one_wins() {
        // Who tries scratches what the other one is short of.
        GlassHill x = built("a259,r050,r130");
        due("0 would bring 1 up", x.game(0, 1, 2), 0);
        due("and nobody else does", x.game(0, 1, 10), 0);
        x = built("a259,r130,r050");
        due("1 would bring 0 up", x.game(0, 1, 3), 0);
        due("1 first", x.game(1, 0, 10), 0);
    }

    @Says("each would rather win than that nobody does, and rather that than that the other one does")
    private static void p12_he_tries_who_wins_by_it() {
        GlassHill x = built("a262,l060,r000");
        due("three tries, 5 turns", x.game(0, 1, 5), 1);
        due("4 turns", x.game(0, 1, 4), 0);
        due("6 turns as the other one", x.game(1, 0, 6), 2);
        due("5 turns as the other one", x.game(1, 0, 5), 0);
    }

    @Says("At first there are those SCRATCHES that were laid ahead, nobody has TRIED.")
    private static void p12_with_scratches_laid_ahead_which_stay() {
        GlassHill x = built("a255,r090,r000");
        due("none laid", x.game(0, 1, 1), 0);
        x.scratch(0, 1);
        due("one laid", x.game(0, 1, 1), 1);
        due("laid", x.ofPace(0, 1), 1);
        x = built("a800000009,r080,r000");
        x.scratch(7, 1);
        due("on the last of 8", x.game(0, 1, 1), 1);
        due("by the second turn", x.game(1, 0, 2), 2);
    }

    @Says("At first there are those SCRATCHES that were laid ahead, nobody has TRIED.")
    private static void p12_nothing_is_left_of_other_calls() {
        GlassHill x = built("a255,r090,l050");
        due("days", days(x, 20, 1, 1, 0), 2);
        due("0 is not up without", x.game(0, 1, 1), 0);
        due("days", days(x, 20, 0, 0, 0), 1);
        x.speed(0, 10);
        due("nor slower", x.game(0, 1, 1), 1);
        due("nor up", x.game(1, 0, 1), 0);
    }

    @Says("UNKNOWN; OUTSIDE: both are one, n.")
    private static void p12_both_are_one() {
        for (int r = 0; r < 3; r++) {
            int both = r;
            refusedBesideFaults("both " + r, x -> x.game(both, both, 5), OUTSIDE);
        }
    }

    @Says("UNKNOWN; OUTSIDE: both are one, n.")
    private static void p12_a_rider_that_there_is_not() {
        for (int r : NO_RIDERS) {
            refusedBesideFaults("first " + r, x -> x.game(r, 0, 5), UNKNOWN);
            refusedBesideFaults("other " + r, x -> x.game(0, r, 5), UNKNOWN);
        }
    }

    @Says("REFUSALS, in the order in which a call's line tells them: UNKNOWN")
    private static void p12_unknown_ahead_of_outside() {
        for (int r : NO_RIDERS) {
            refusedBesideFaults("ahead of both are one", x -> x.game(r, r, 5), UNKNOWN);
            refusedBesideFaults("the other one, ahead of n", x -> x.game(0, r, 11), UNKNOWN);
            refusedBesideFaults("the first one, ahead of n", x -> x.game(r, 0, -1), UNKNOWN);
        }
    }

    // ---- promise 13: worth

    @Says("HEIGHTS of all others together, less those if he did not TRY.")
    private static void p13_of_one_without_others() {
        due("who is up", built("a200,r000").worth(0), 100);
        due("who slides", built("a209,r000").worth(0), 100);
    }

    @Says("WORTH, and 100.")
    private static void p13_above_100_and_below() {
        GlassHill x = built("a255,r050,r090");
        due("he brings 1 up", x.worth(0), 101);
        due("the last one", x.worth(1), 100);
        // He brings the lad up, who so leaves nothing to the last one: 2 and 0 for 1 and 2.
        due("below", built("a251,r050,l050,r021").worth(0), 99);
    }

    @Says("WORTH of a RIDER: all TRY once, by numbers")
    private static void p13_of_five() {
        GlassHill x = built("a255,l050,r090,r080,n060,r000");
        // Behind his two scratches 1, 2 and 3 are up; else 1 and 2 slide, and 3 alone is up by that.
        due("the first one", x.worth(0), 102);
        due("the last one", x.worth(4), 100);
    }

    @Says("WORTH of a RIDER: all TRY once, by numbers")
    private static void p13_by_numbers_and_with_scratches_laid() {
        GlassHill x = built("a255,r090,r050,r080");
        due("those behind him alone", x.worth(1), 101);
        due("none is behind him", x.worth(2), 100);
        x.scratch(0, 2);
        due("all are up without him", x.worth(1), 100);
        due("laid", x.ofPace(0, 1), 2);
    }

    @Says("UNKNOWN (there is no such RIDER, PACE, SHEET, place)")
    private static void p13_a_rider_that_there_is_not() {
        for (int r : NO_RIDERS) {
            refusedBesideFaults("worth " + r, x -> x.worth(r), UNKNOWN);
        }
    }

    // ---- promise 14: reading

    @Says("READINGS, 8 at most, numbered by how many there are ahead (the first one is 0)")
    private static void p14_the_ninth_is_too_much() {
        GlassHill x = built("a299,r000");
        for (int k = 0; k < 8; k++) {
            due("reading " + k, x.reading(0, k), k);
        }
        x.put(3, 0, 0);
        due("a ninth", x.reading(0, 0), FULL);
        due("fault() stays", x.fault(), NULL);
        due("many(2)", x.many(2), 8);
        due("one back", x.back(1), 7);
        due("one again", x.reading(0, 0), 7);
        due("too much again", x.reading(0, 0), FULL);
    }

    @Says("A READING: its number. UNKNOWN; OUTSIDE: height (0 .. 8); FULL.")
    private static void p14_height_is_0_to_8_in_each_hill() {
        GlassHill x = built("a299,r000");
        due("0", x.reading(0, 0), 0);
        due("8", x.reading(0, 8), 1);
        for (int height : new int[] {-1, 9, MOST, LEAST}) {
            refusedBesideFaults("height " + height, y -> y.reading(0, height), OUTSIDE);
        }
    }

    @Says("UNKNOWN; OUTSIDE: height (0 .. 8); FULL.")
    private static void p14_a_rider_that_there_is_not() {
        for (int r : NO_RIDERS) {
            refusedBesideFaults("reading of " + r, x -> x.reading(r, 0), UNKNOWN);
            refusedBesideFaults("height 9, too", x -> x.reading(r, 9), UNKNOWN);
        }
    }

    @Says("REFUSALS, in the order in which a call's line tells them: UNKNOWN")
    private static void p14_unknown_and_outside_ahead_of_full() {
        GlassHill x = built("a299,r000");
        for (int k = 0; k < 8; k++) {
            x.reading(0, 0);
        }
        due("r 1", x.reading(1, 0), UNKNOWN);
        due("r 1, height 9", x.reading(1, 9), UNKNOWN);
        due("height 9", x.reading(0, 9), OUTSIDE);
        due("height -1", x.reading(0, -1), OUTSIDE);
        due("height 8", x.reading(0, 8), FULL);
    }

    // ---- promise 15: back

    @Says("The last k READINGS (0 .. as many as there are) are taken back: how many are left. OUTSIDE.")
    private static void p15_k_is_0_to_as_many_as_there_are() {
        GlassHill x = built("a255,r070");
        for (int k = 0; k < 8; k++) {
            x.reading(0, 1);
        }
        due("none", x.back(0), 8);
        due("three", x.back(3), 5);
        due("all that are left", x.back(5), 0);
        due("none of none", x.back(0), 0);
        due("one of none", x.back(1), OUTSIDE);
    }

    @Says("OUTSIDE (another number is not as told)")
    private static void p15_k_below_0_or_more_than_there_are() {
        for (int k : new int[] {-1, 3, MOST, LEAST}) {
            refusedBesideFaults("back " + k, x -> x.back(k), OUTSIDE);
        }
    }

    @Says("The last k READINGS (0 .. as many as there are) are taken back: how many are left. OUTSIDE.")
    private static void p15_without_a_hill() {
        GlassHill x = new GlassHill();
        due("none", x.back(0), 0);
        due("one", x.back(1), OUTSIDE);
        due("-1", x.back(-1), OUTSIDE);
    }

    @Says("The last k READINGS (0 .. as many as there are) are taken back: how many are left. OUTSIDE.")
    private static void p15_the_last_ones_are_taken_back() {
        GlassHill x = built("a255,r070");
        int n = lay(x, 0);
        x.reading(0, 1);
        x.reading(0, 2);
        due("both can't be", x.speeds(0, 1, INTS, 1, n, 0), 0);
        due("one", x.back(1), 1);
        due("height 1 is left: 5 .. 9", x.speeds(0, 1, INTS, 1, n, 1), 5);
        due("the other one", x.back(1), 0);
        due("all", x.speeds(0, 1, INTS, 1, n, 0), 100);
    }

    // ---- promise 16: speeds

    @Says("UNKNOWN: RIDER, SHEET; OUTSIDE: lane, n, which; else as days().")
    private static void p16_a_rider_that_there_is_not() {
        for (int r : NO_RIDERS) {
            refused("speeds of " + r, x -> x.speeds(r, 1, INTS, 0, 3, 0), UNKNOWN);
            refused("ahead of OUTSIDE", x -> x.speeds(r, 1, 3, 0, 31, 2), UNKNOWN);
            refused("ahead of NULL", x -> x.speeds(r, 3, INTS, 0, 3, 0), UNKNOWN);
        }
    }

    @Says("UNKNOWN: RIDER, SHEET; OUTSIDE: lane, n, which; else as days().")
    private static void p16_a_sheet_that_there_is_not() {
        SPEEDS.sheetsThatThereAreNot();
        refused("ahead of which", x -> x.speeds(0, 4, INTS, 0, 3, 2), UNKNOWN);
    }

    @Says("OUTSIDE: lane, n, which; else as days().")
    private static void p16_a_lane_that_there_is_not() {
        SPEEDS.lanesThatThereAreNot();
    }

    @Says("OUTSIDE: lane, n, which; else as days().")
    private static void p16_n_below_0_or_above_30() {
        SPEEDS.stepsTooFewOrTooMany();
    }

    @Says("OUTSIDE: lane, n, which; else as days().")
    private static void p16_n_0_and_30() {
        SPEEDS.noStepsAndTheMost();
    }

    @Says("OUTSIDE: lane, n, which; else as days().")
    private static void p16_which_is_0_or_1() {
        for (int which : new int[] {-1, 2, MOST, LEAST}) {
            refused("which " + which, x -> x.speeds(0, 1, INTS, 0, 3, which), OUTSIDE);
            refused("of nothing, which " + which, x -> x.speeds(0, 3, INTS, -1, 3, which), OUTSIDE);
        }
    }

    @Says("else as days().")
    private static void p16_faults_as_of_days() {
        SPEEDS.sheetsOfAnotherLane();
        SPEEDS.nothingIsNoCast();
        SPEEDS.cellsThatThereAreNot();
    }

    @Says("REFUSALS, in the order in which a call's line tells them: UNKNOWN")
    private static void p16_unknown_ahead_of_outside_ahead_of_faults() {
        SPEEDS.unknownAheadOfOutsideAheadOfFaults();
    }

    @Says("Of a call the first that is come to, in the order told")
    private static void p16_faults_in_the_order_told() {
        SPEEDS.faultsInTheOrderTold();
    }

    @Says("INDEX (of cells from i on also where i is not 0 .. how many there are, if none of them is taken, too)")
    private static void p16_index_if_none_is_taken() {
        SPEEDS.noneOfTheCellsIsTaken();
    }

    @Says("else as days().")
    private static void p16_a_step_of_no_rider() {
        SPEEDS.stepsOfNoRider();
        SPEEDS.stepsOfNoRiderBehindAWrongOne();
        SPEEDS.cellsAroundAreNoSteps();
    }

    @Says("SPEEDS of a RIDER: 0 .. 99: how many, the least")
    private static void p16_speeds_are_0_to_99() {
        GlassHill x = built("a255,r070");
        int n = lay(x, 0);
        due("all", x.speeds(0, 1, INTS, 1, n, 0), 100);
        due("the least of all", x.speeds(0, 1, INTS, 1, n, 1), 0);
        x.reading(0, 0);
        due("0 .. 4", x.speeds(0, 1, INTS, 1, n, 0), 5);
        due("the least, 0", x.speeds(0, 1, INTS, 1, n, 1), 0);
        x.back(1);
        x.reading(0, 2);
        due("10 .. 99", x.speeds(0, 1, INTS, 1, n, 0), 90);
        due("the least, 10", x.speeds(0, 1, INTS, 1, n, 1), 10);
    }

    @Says("SPEEDS by such DAYS: how many (which 0), the least (1; NONE).")
    private static void p16_the_least_of_none() {
        GlassHill x = built("a255,r070");
        int n = lay(x, 0);
        x.reading(0, 3);
        due("how many", x.speeds(0, 1, INTS, 1, n, 0), 0);
        due("the least", x.speeds(0, 1, INTS, 1, n, 1), NONE);
    }

    @Says("(that they can't be as it is now does not matter)")
    private static void p16_days_that_can_not_be_as_it_is_now() {
        GlassHill x = built("a255,r990");
        int n = lay(x, 0, 0);
        due("as it is now", x.days(1, INTS, 1, n, 1), 1);
        due("0 .. 9", x.speeds(0, 1, INTS, 1, n, 0), 10);
        due("the least", x.speeds(0, 1, INTS, 1, n, 1), 0);
        due("as it was", x.ofRider(0, 1), 99);
    }

    @Says("in place of what it is alone, by which they can be, and all READINGS are so")
    private static void p16_not_those_by_which_they_can_not_be() {
        GlassHill x = built("a255,r050");
        int n = lay(x, 0, 0, 0);
        due("10 and more are up at once", x.speeds(0, 1, INTS, 1, n, 0), 10);
        x.reading(0, 1);
        x.reading(0, 1);
        // In his third try he has 2 less, and up to two scratches help: 5 .. 9, as at first.
        due("and all readings", x.speeds(0, 1, INTS, 1, n, 0), 5);
        x.reading(0, 0);
        due("one that is not so", x.speeds(0, 1, INTS, 1, n, 0), 0);
    }

    @Says("(of a RIDER who did not TRY none is so)")
    private static void p16_of_one_who_did_not_try_none_is_so() {
        GlassHill x = built("a255,r070,r070");
        int n = lay(x, 5, 1, 5);
        for (int height = 0; height <= 8; height++) {
            x.reading(0, height);
            due("height " + height, x.speeds(0, 1, INTS, 1, n, 0), 0);
            due("the least", x.speeds(0, 1, INTS, 1, n, 1), NONE);
            x.back(1);
        }
        x.reading(1, 1);
        due("of one who did", x.speeds(0, 1, INTS, 1, n, 0), 100);
    }

    @Says("in place of what it is alone, by which they can be, and all READINGS are so")
    private static void p16_speed_is_as_it_was() {
        // Pace 0 takes 1 of him, pace 1 takes 4 more: height 1 is of 1 .. 4.
        for (int which = 0; which < 2; which++) {
            int asked = which;
            keeps("speeds", y -> meet(y, NULL), y -> y.speeds(0, 1, INTS, 0, 3, asked),
                    asked == 0 ? 4 : 1, 0);
        }
    }

    // ---- promise 17: nails

    @Says("UNKNOWN: RIDER, SHEET; OUTSIDE: lane, n; else as days().")
    private static void p17_a_rider_that_there_is_not() {
        for (int r : NO_RIDERS) {
            refused("nails of " + r, x -> x.nails(r, 1, INTS, 0, 3), UNKNOWN);
            refused("ahead of OUTSIDE", x -> x.nails(r, 1, 3, 0, 31), UNKNOWN);
            refused("ahead of NULL", x -> x.nails(r, 3, INTS, 0, 3), UNKNOWN);
        }
    }

    @Says("UNKNOWN: RIDER, SHEET; OUTSIDE: lane, n; else as days().")
    private static void p17_a_sheet_that_there_is_not() {
        NAILS.sheetsThatThereAreNot();
    }

    @Says("OUTSIDE: lane, n; else as days().")
    private static void p17_a_lane_that_there_is_not() {
        NAILS.lanesThatThereAreNot();
    }

    @Says("OUTSIDE: lane, n; else as days().")
    private static void p17_n_below_0_or_above_30() {
        NAILS.stepsTooFewOrTooMany();
    }

    @Says("OUTSIDE: lane, n; else as days().")
    private static void p17_n_0_and_30() {
        NAILS.noStepsAndTheMost();
    }

    @Says("else as days().")
    private static void p17_faults_as_of_days() {
        NAILS.sheetsOfAnotherLane();
        NAILS.nothingIsNoCast();
        NAILS.cellsThatThereAreNot();
    }

    @Says("REFUSALS, in the order in which a call's line tells them: UNKNOWN")
    private static void p17_unknown_ahead_of_outside_ahead_of_faults() {
        NAILS.unknownAheadOfOutsideAheadOfFaults();
    }

    @Says("Of a call the first that is come to, in the order told")
    private static void p17_faults_in_the_order_told() {
        NAILS.faultsInTheOrderTold();
    }

    @Says("INDEX (of cells from i on also where i is not 0 .. how many there are, if none of them is taken, too)")
    private static void p17_index_if_none_is_taken() {
        NAILS.noneOfTheCellsIsTaken();
    }

    @Says("else as days().")
    private static void p17_a_step_of_no_rider() {
        NAILS.stepsOfNoRider();
        NAILS.stepsOfNoRiderBehindAWrongOne();
        NAILS.cellsAroundAreNoSteps();
    }

    @Says("NAILS of a RIDER: 0 .. 9, as a set")
    private static void p17_nails_are_0_to_9() {
        GlassHill x = built("a299,r080");
        int n = lay(x, 0);
        due("all", x.nails(0, 1, INTS, 1, n), 1023);
        x.reading(0, 0);
        due("0 alone", x.nails(0, 1, INTS, 1, n), 1);
        x.back(1);
        x.reading(0, 2);
        x.speed(0, 0);
        due("9 alone", x.nails(0, 1, INTS, 1, n), 512);
        x.reading(0, 1);
        due("none", x.nails(0, 1, INTS, 1, n), 0);
    }

    @Says("(of a RIDER who did not TRY none is so)")
    private static void p17_of_one_who_did_not_try_none_is_so() {
        GlassHill x = built("a255,r070,r070");
        x.reading(1, 0);
        due("nails", x.nails(0, 1, INTS, 1, lay(x, 0)), 0);
    }

    @Says("(that they can't be as it is now does not matter)")
    private static void p17_days_that_can_not_be_as_it_is_now() {
        GlassHill x = built("a255,r079");
        int n = lay(x, 0, 0);
        due("as it is now", x.days(1, INTS, 1, n, 0), -101);
        // 5 - v twice is more than 7 for 0 and 1.
        due("0, 1", x.nails(0, 1, INTS, 1, n), 3);
        due("as they were", x.ofRider(0, 2), 9);
    }

    @Says("in place of what it is alone, by which they can be, and all READINGS are so")
    private static void p17_nails_are_as_they_were() {
        // Pace 0 takes 4 - v of the 7 that he has, pace 1 7 - v: too much for 0 and 1.
        keeps("nails", y -> meet(y, NULL), y -> y.nails(0, 1, INTS, 0, 3), 3, 0);
    }

    // ---- promise 18: slicks

    @Says("UNKNOWN: PACE, SHEET; OUTSIDE: lane, n; else as days().")
    private static void p18_a_pace_that_there_is_not() {
        for (int p : NO_PACES) {
            refused("slicks of " + p, x -> x.slicks(p, 1, INTS, 0, 3), UNKNOWN);
            refused("ahead of OUTSIDE", x -> x.slicks(p, 1, 3, 0, 31), UNKNOWN);
            refused("ahead of NULL", x -> x.slicks(p, 3, INTS, 0, 3), UNKNOWN);
        }
    }

    @Says("UNKNOWN: PACE, SHEET; OUTSIDE: lane, n; else as days().")
    private static void p18_a_pace_that_is_no_rider_and_a_rider_that_is_no_pace() {
        GlassHill x = built("a255,r000,r000,r000");
        int n = lay(x, 5);
        due("pace 2", x.slicks(2, 1, INTS, 1, n), UNKNOWN);
        x = built("a8" + "55555555,r000");
        n = lay(x, 5);
        due("pace 7", x.slicks(7, 1, INTS, 1, n), 1023);
    }

    @Says("UNKNOWN: PACE, SHEET; OUTSIDE: lane, n; else as days().")
    private static void p18_a_sheet_that_there_is_not() {
        SLICKS.sheetsThatThereAreNot();
    }

    @Says("OUTSIDE: lane, n; else as days().")
    private static void p18_a_lane_that_there_is_not() {
        SLICKS.lanesThatThereAreNot();
    }

    @Says("OUTSIDE: lane, n; else as days().")
    private static void p18_n_below_0_or_above_30() {
        SLICKS.stepsTooFewOrTooMany();
    }

    @Says("OUTSIDE: lane, n; else as days().")
    private static void p18_n_0_and_30() {
        SLICKS.noStepsAndTheMost();
    }

    @Says("else as days().")
    private static void p18_faults_as_of_days() {
        SLICKS.sheetsOfAnotherLane();
        SLICKS.nothingIsNoCast();
        SLICKS.cellsThatThereAreNot();
    }

    @Says("REFUSALS, in the order in which a call's line tells them: UNKNOWN")
    private static void p18_unknown_ahead_of_outside_ahead_of_faults() {
        SLICKS.unknownAheadOfOutsideAheadOfFaults();
    }

    @Says("Of a call the first that is come to, in the order told")
    private static void p18_faults_in_the_order_told() {
        SLICKS.faultsInTheOrderTold();
    }

    @Says("INDEX (of cells from i on also where i is not 0 .. how many there are, if none of them is taken, too)")
    private static void p18_index_if_none_is_taken() {
        SLICKS.noneOfTheCellsIsTaken();
    }

    @Says("else as days().")
    private static void p18_a_step_of_no_rider() {
        SLICKS.stepsOfNoRider();
        SLICKS.stepsOfNoRiderBehindAWrongOne();
        SLICKS.cellsAroundAreNoSteps();
    }

    @Says("SLICKS of a PACE: 0 .. 9, as a set")
    private static void p18_slicks_are_0_to_9() {
        GlassHill x = built("a250,r080");
        int n = lay(x, 0);
        due("all", x.slicks(0, 1, INTS, 1, n), 1023);
        x.reading(0, 0);
        due("9 alone", x.slicks(0, 1, INTS, 1, n), 512);
        x.back(1);
        x.speed(0, 0);
        x.reading(0, 2);
        due("0 alone", x.slicks(0, 1, INTS, 1, n), 1);
        due("none of the other pace", x.slicks(1, 1, INTS, 1, n), 0);
    }

    @Says("(of a RIDER who did not TRY none is so)")
    private static void p18_of_one_who_did_not_try_none_is_so() {
        GlassHill x = built("a255,r070,r070");
        x.reading(1, 0);
        due("slicks", x.slicks(0, 1, INTS, 1, lay(x, 0)), 0);
    }

    @Says("(that they can't be as it is now does not matter)")
    private static void p18_days_that_can_not_be_as_it_is_now() {
        GlassHill x = built("a202,r090");
        int n = lay(x, 0, 0);
        due("as it is now", x.days(1, INTS, 1, n, 0), -101);
        due("8, 9", x.slicks(0, 1, INTS, 1, n), 768);
        due("as it was", x.ofPace(0, 0), 0);
    }

    @Says("in place of what it is alone, by which they can be, and all READINGS are so")
    private static void p18_a_slick_is_as_it_was() {
        // Pace 1 takes 4, which is too much if pace 0 took more than 3 of the 7: v less 4.
        keeps("slicks", y -> meet(y, NULL), y -> y.slicks(0, 1, INTS, 0, 3), 768, 0);
    }

    // ---- promise 19: kinds

    @Says("UNKNOWN: RIDER, SHEET; OUTSIDE: lane, n; else as days().")
    private static void p19_a_rider_that_there_is_not() {
        for (int r : NO_RIDERS) {
            refused("kinds of " + r, x -> x.kinds(r, 1, INTS, 0, 3), UNKNOWN);
            refused("ahead of OUTSIDE", x -> x.kinds(r, 1, 3, 0, 31), UNKNOWN);
            refused("ahead of NULL", x -> x.kinds(r, 3, INTS, 0, 3), UNKNOWN);
        }
    }

    @Says("UNKNOWN: RIDER, SHEET; OUTSIDE: lane, n; else as days().")
    private static void p19_a_sheet_that_there_is_not() {
        KINDS.sheetsThatThereAreNot();
    }

    @Says("OUTSIDE: lane, n; else as days().")
    private static void p19_a_lane_that_there_is_not() {
        KINDS.lanesThatThereAreNot();
    }

    @Says("OUTSIDE: lane, n; else as days().")
    private static void p19_n_below_0_or_above_30() {
        KINDS.stepsTooFewOrTooMany();
    }

    @Says("OUTSIDE: lane, n; else as days().")
    private static void p19_n_0_and_30() {
        KINDS.noStepsAndTheMost();
    }

    @Says("else as days().")
    private static void p19_faults_as_of_days() {
        KINDS.sheetsOfAnotherLane();
        KINDS.nothingIsNoCast();
        KINDS.cellsThatThereAreNot();
    }

    @Says("REFUSALS, in the order in which a call's line tells them: UNKNOWN")
    private static void p19_unknown_ahead_of_outside_ahead_of_faults() {
        KINDS.unknownAheadOfOutsideAheadOfFaults();
    }

    @Says("Of a call the first that is come to, in the order told")
    private static void p19_faults_in_the_order_told() {
        KINDS.faultsInTheOrderTold();
    }

    @Says("INDEX (of cells from i on also where i is not 0 .. how many there are, if none of them is taken, too)")
    private static void p19_index_if_none_is_taken() {
        KINDS.noneOfTheCellsIsTaken();
    }

    @Says("else as days().")
    private static void p19_a_step_of_no_rider() {
        KINDS.stepsOfNoRider();
        KINDS.stepsOfNoRiderBehindAWrongOne();
        KINDS.cellsAroundAreNoSteps();
    }

    @Says("KINDS of a RIDER: 0 .. 2, as a set.")
    private static void p19_kinds_are_0_to_2() {
        GlassHill x = built("a255,r050,r080");
        int n = lay(x, 0, 1);
        due("all", x.kinds(0, 1, INTS, 1, n), 7);
        x.reading(1, 2);
        due("2 alone: two scratches", x.kinds(0, 1, INTS, 1, n), 4);
        x.back(1);
        x.speed(0, 8);
        x.reading(0, 2);
        due("1 alone: each for 4", x.kinds(0, 1, INTS, 1, n), 2);
        x.back(1);
        x.speed(1, 9);
        x.reading(0, 1);
        x.reading(1, 2);
        due("0, 2", x.kinds(0, 1, INTS, 1, n), 5);
        x.reading(1, 1);
        due("none", x.kinds(0, 1, INTS, 1, n), 0);
    }

    @Says("KINDS of a RIDER: 0 .. 2, as a set.")
    private static void p19_kind_0_alone() {
        // The lad leaves 2 to the next one, the night comes up all: a rider does neither.
        GlassHill x = built("a255,l080,r080");
        int n = lay(x, 0, 1);
        x.reading(0, 1);
        x.reading(1, 1);
        due("0 alone", x.kinds(0, 1, INTS, 1, n), 1);
    }

    @Says("(of a RIDER who did not TRY none is so)")
    private static void p19_of_one_who_did_not_try_none_is_so() {
        GlassHill x = built("a255,r070,r070");
        x.reading(1, 0);
        due("kinds", x.kinds(0, 1, INTS, 1, lay(x, 0)), 0);
    }

    @Says("(that they can't be as it is now does not matter)")
    private static void p19_days_that_can_not_be_as_it_is_now() {
        GlassHill x = built("a255,n080");
        int n = lay(x, 0, 0);
        due("as it is now", x.days(1, INTS, 1, n, 0), -101);
        due("0, 2", x.kinds(0, 1, INTS, 1, n), 5);
        due("as it was", x.ofRider(0, 0), 1);
    }

    @Says("in place of what it is alone, by which they can be, and all READINGS are so")
    private static void p19_a_kind_is_as_it_was() {
        keeps("kinds", y -> meet(y, NULL), y -> y.kinds(1, 1, INTS, 0, 3), 0, 0);
    }

    // ---- promise 20: odds

    private static void share(GlassHill x, int r, long upper, long lower, int... steps) {
        int n = lay(x, steps);
        String told = "odds of " + r + " by " + Arrays.toString(steps);
        due(told + ", upper", x.odds(r, 1, INTS, 1, n, 0), upper);
        due(told + ", lower", x.odds(r, 1, INTS, 1, n, 1), lower);
    }

    @Says("LOST: UNKNOWN: RIDER, SHEET; OUTSIDE: lane, n (0 .. 10), which; else as days().")
    private static void p20_a_rider_that_there_is_not() {
        for (int r : NO_RIDERS) {
            refused("odds of " + r, x -> x.odds(r, 1, INTS, 0, 3, 0), LOST);
            refused("ahead of OUTSIDE", x -> x.odds(r, 1, 3, 0, 11, 2), LOST);
            refused("ahead of NULL", x -> x.odds(r, 3, INTS, 0, 3, 1), LOST);
        }
    }

    @Says("LOST: UNKNOWN: RIDER, SHEET; OUTSIDE: lane, n (0 .. 10), which; else as days().")
    private static void p20_a_sheet_that_there_is_not() {
        ODDS.sheetsThatThereAreNot();
    }

    @Says("OUTSIDE: lane, n (0 .. 10), which; else as days().")
    private static void p20_a_lane_that_there_is_not() {
        ODDS.lanesThatThereAreNot();
    }

    @Says("OUTSIDE: lane, n (0 .. 10), which; else as days().")
    private static void p20_n_below_0_or_above_10() {
        ODDS.stepsTooFewOrTooMany();
    }

    @Says("ODDS of a RIDER by DAYS of n STEPS (10 at most)")
    private static void p20_n_0_and_10() {
        ODDS.noStepsAndTheMost();
        GlassHill x = built("a255,r090,r000");
        share(x, 0, 0, 1);
        x.scratch(0, 1);
        // One scratch is needed, and any rain takes it.
        share(x, 0, 1, 1024, 1, 1, 1, 1, 1, 1, 1, 1, 1, 0);
        x.scratch(0, 2);
        share(x, 0, 11, 1024, 1, 1, 1, 1, 1, 1, 1, 1, 1, 0);
    }

    @Says("ODDS of a RIDER by DAYS of n STEPS (10 at most)")
    private static void p20_no_step_behind_the_last_one() {
        GlassHill x = built("a255,r100,r000");
        share(x, 0, 1, 1, 1, 1, 0, 1, 0, 0, 0, 0, 0, 0);
        share(x, 0, 0, 1, 1, 1);
        share(x, 0, 0, 1, 1);
        share(x, 0, 0, 1);
        share(x, 0, 1, 1, 1, 1, 0);
        x.speed(0, 9);
        x.scratch(0, 1);
        share(x, 0, 1, 8, 1, 1, 0);
        share(x, 0, 0, 1, 1, 1);
        share(x, 0, 0, 1, 1);
        share(x, 0, 1, 2, 0);
        share(x, 0, 0, 1);
    }

    @Says("OUTSIDE: lane, n (0 .. 10), which; else as days().")
    private static void p20_which_is_0_or_1() {
        for (int which : new int[] {-1, 2, MOST, LEAST}) {
            refused("which " + which, x -> x.odds(0, 1, INTS, 0, 3, which), LOST);
            refused("of nothing, which " + which, x -> x.odds(0, 3, INTS, 0, 3, which), LOST);
        }
    }

    @Says("it answers -10 less it (LOST, where a long is answered, as for refusals)")
    private static void p20_faults_as_of_days() {
        ODDS.sheetsOfAnotherLane();
        ODDS.nothingIsNoCast();
        ODDS.cellsThatThereAreNot();
    }

    @Says("REFUSALS, in the order in which a call's line tells them: UNKNOWN")
    private static void p20_unknown_ahead_of_outside_ahead_of_faults() {
        ODDS.unknownAheadOfOutsideAheadOfFaults();
    }

    @Says("Of a call the first that is come to, in the order told")
    private static void p20_faults_in_the_order_told() {
        ODDS.faultsInTheOrderTold();
    }

    @Says("INDEX (of cells from i on also where i is not 0 .. how many there are, if none of them is taken, too)")
    private static void p20_index_if_none_is_taken() {
        ODDS.noneOfTheCellsIsTaken();
    }

    @Says("else as days().")
    private static void p20_a_step_of_no_rider() {
        ODDS.stepsOfNoRider();
        ODDS.stepsOfNoRiderBehindAWrongOne();
        ODDS.cellsAroundAreNoSteps();
    }

    @Says("if it RAINS ahead of each of them, or does not, all alike")
    private static void p20_ahead_of_the_first_step_too_and_not_behind_the_last() {
        GlassHill x = built("a255,r090,r000");
        x.scratch(0, 1);
        share(x, 0, 1, 2, 0);
        share(x, 0, 1, 4, 1, 0);
        due("laid", x.ofPace(0, 1), 1);
    }

    @Says("At first there are those SCRATCHES that were laid ahead, nobody has TRIED.")
    private static void p20_with_scratches_laid_ahead_on_the_last_pace() {
        GlassHill x = built("a800000009,r080,r000");
        x.scratch(7, 1);
        share(x, 0, 1, 2, 0);
        share(x, 0, 1, 4, 1, 0);
    }

    @Says("if it RAINS ahead of each of them, or does not, all alike")
    private static void p20_ahead_of_a_rain_too() {
        GlassHill x = built("a255,r090,r000");
        x.scratch(0, 2);
        share(x, 0, 1, 4, 5, 0);
        x.scratch(0, 3);
        share(x, 0, 3, 4, 5, 0);
    }

    @Says("(a TRY of one who is UP is of no matter here)")
    private static void p20_a_try_of_one_who_is_up_is_of_no_matter() {
        GlassHill x = built("a255,r100,l100,r000");
        share(x, 0, 1, 1, 0, 0, 0);
        share(x, 0, 1, 1, 1, 1, 5, 0, 1, 1);
        x.speed(0, 9);
        // 1 is up by his first try, his others leave no scratches.
        share(x, 0, 0, 1, 1, 1, 1, 0);
        x.scratch(0, 1);
        // 0 is up at once if it is dry, and is not slower by his second try; else he needs it.
        share(x, 0, 1, 2, 0, 0, 0);
    }

    @Says("Shares are told as upper and lower number (above 0) in least terms.")
    private static void p20_in_least_terms() {
        GlassHill x = built("a255,r090,r000");
        share(x, 1, 0, 1, 1, 1, 1);
        share(x, 0, 0, 1, 0);
        x.scratch(0, 1);
        share(x, 0, 1, 2, 0, 1, 1, 1);
        x.scratch(0, 2);
        share(x, 0, 1, 1, 0);
        share(x, 0, 1, 1, 0, 1, 1, 1, 1, 1, 1, 1, 1, 1);
        share(x, 0, 3, 4, 1, 0, 1, 1);
        share(x, 0, 1, 2, 1, 1, 0);
    }

    // ---- promise 21: sheet

    @Says("or a row of 0 .. 60 numbers (0 at first) of a LANE: 0 bytes, 1 shorts, 2 ints")
    private static void p21_n_0_and_60() {
        GlassHill x = new GlassHill();
        for (int lane = BYTES; lane <= INTS; lane++) {
            due("60", x.sheet(lane, lane, 60), 1);
            due("the first", x.cell(lane, 0, lane), 0);
            due("the last", x.cell(lane, 59, lane), 0);
            due("beyond", x.cell(lane, 60, lane), LOST);
            due("put the last", x.put(lane, 59, 1), 1);
            due("put beyond", x.put(lane, 60, 1), -10 - INDEX);
            due("0", x.sheet(lane, lane, 0), 1);
            due("put the first of none", x.put(lane, 0, 1), -10 - INDEX);
            due("a row of none is there", x.lose(lane), 1);
        }
    }

    @Says("or a row of 0 .. 60 numbers (0 at first) of a LANE")
    private static void p21_a_new_row_has_0_at_first() {
        GlassHill x = new GlassHill();
        write(x, 0, INTS, 1, 2, 3, 4);
        due("new", x.sheet(0, INTS, 4), 1);
        row(x, 0, INTS, 0, 0, 0, 0);
        write(x, 0, INTS, 1, 2, 3, 4);
        due("shorter", x.sheet(0, INTS, 2), 1);
        row(x, 0, INTS, 0, 0);
        due("longer", x.sheet(0, BYTES, 6), 1);
        row(x, 0, BYTES, 0, 0, 0, 0, 0, 0);
        write(x, 0, INTS, 1, 2, 3, 4);
        x.lose(0);
        due("behind lose", x.sheet(0, INTS, 4), 1);
        row(x, 0, INTS, 0, 0, 0, 0);
    }

    @Says("A SHEET gets a new row: 1. UNKNOWN; OUTSIDE: lane, n above 60; SIZE.")
    private static void p21_a_sheet_that_there_is_not() {
        for (int k : NO_SHEETS) {
            refused("sheet " + k, x -> x.sheet(k, INTS, 3), UNKNOWN);
        }
    }

    @Says("REFUSALS, in the order in which a call's line tells them: UNKNOWN")
    private static void p21_unknown_ahead_of_outside_ahead_of_size() {
        for (int k : NO_SHEETS) {
            refused("ahead of a lane", x -> x.sheet(k, 3, 3), UNKNOWN);
            refused("ahead of n above 60", x -> x.sheet(k, INTS, 61), UNKNOWN);
            refused("ahead of SIZE", x -> x.sheet(k, INTS, -1), UNKNOWN);
        }
        for (int lane : NO_LANES) {
            refused("lane " + lane + ", ahead of SIZE", x -> x.sheet(1, lane, -1), OUTSIDE);
        }
    }

    @Says("UNKNOWN; OUTSIDE: lane, n above 60; SIZE.")
    private static void p21_a_lane_that_there_is_not() {
        for (int lane : NO_LANES) {
            refused("lane " + lane, x -> x.sheet(1, lane, 3), OUTSIDE);
        }
    }

    @Says("UNKNOWN; OUTSIDE: lane, n above 60; SIZE.")
    private static void p21_n_above_60() {
        for (int n : new int[] {61, 62, MOST}) {
            refused("n " + n, x -> x.sheet(1, BYTES, n), OUTSIDE);
        }
    }

    @Says("4 SIZE (a length below 0)")
    private static void p21_n_below_0() {
        for (int n : new int[] {-1, -60, LEAST}) {
            faulted("n " + n, x -> x.sheet(1, BYTES, n), SIZE);
            faulted("of nothing, n " + n, x -> x.sheet(3, BYTES, n), SIZE);
        }
    }

    // ---- promise 22: lose

    @Says("A SHEET has nothing: 1; 0: it had nothing. UNKNOWN.")
    private static void p22_it_had_nothing() {
        GlassHill x = full();
        for (int k = 0; k < 4; k++) {
            due("lose " + k, x.lose(k), k < 3 ? 1 : 0);
            due("again " + k, x.lose(k), 0);
            due("put", x.put(k, 0, 0), -10 - NULL);
            due("cell", x.cell(k, 0, BYTES), LOST);
            due("its fault", x.fault(), NULL);
        }
    }

    @Says("A SHEET has nothing: 1; 0: it had nothing. UNKNOWN.")
    private static void p22_a_row_of_no_cells_is_not_nothing() {
        GlassHill x = new GlassHill();
        x.sheet(1, INTS, 0);
        due("put", x.put(1, 0, 0), -10 - INDEX);
        due("lose", x.lose(1), 1);
        due("put", x.put(1, 0, 0), -10 - NULL);
        due("again", x.lose(1), 0);
    }

    @Says("A SHEET has nothing: 1; 0: it had nothing. UNKNOWN.")
    private static void p22_the_others_have_what_they_had() {
        GlassHill x = full();
        due("lose 1", x.lose(1), 1);
        row(x, 2, SHORTS, 9, -300);
        due("lose 2", x.lose(2), 1);
        due("sheet 0", x.cell(0, 19, BYTES), '9');
    }

    @Says("UNKNOWN (there is no such RIDER, PACE, SHEET, place)")
    private static void p22_a_sheet_that_there_is_not() {
        for (int k : NO_SHEETS) {
            refusedBesideFaults("lose " + k, x -> x.lose(k), UNKNOWN);
        }
    }

    // ---- promise 23: put

    @Says("what comes to a cell of it is cut to its LANE (with its sign)")
    private static void p23_cut_to_bytes() {
        cut(BYTES, 127, 127, 128, -128, 129, -127, 255, -1, 256, 0, 257, 1, -128, -128, -129, 127,
                65535, -1, MOST, -1, LEAST, 0);
    }

    @Says("what comes to a cell of it is cut to its LANE (with its sign)")
    private static void p23_cut_to_shorts() {
        cut(SHORTS, 128, 128, 255, 255, 32767, 32767, 32768, -32768, 65535, -1, 65536, 0,
                -32768, -32768, -32769, 32767, MOST, -1, LEAST, 0);
    }

    @Says("what comes to a cell of it is cut to its LANE (with its sign)")
    private static void p23_ints_as_they_are() {
        cut(INTS, MOST, MOST, LEAST, LEAST, 65536, 65536, -32769, -32769, -1, -1);
    }

    private static void cut(int lane, int... pairs) {
        GlassHill x = new GlassHill();
        x.sheet(2, lane, 3);
        for (int c = 0; c < pairs.length; c += 2) {
            due("put " + pairs[c], x.put(2, 1, pairs[c]), 1);
            due("cell of " + pairs[c], x.cell(2, 1, lane), pairs[c + 1]);
            due("the cell ahead", x.cell(2, 0, lane), 0);
            due("the cell behind", x.cell(2, 2, lane), 0);
        }
    }

    @Says("Cell i of a SHEET becomes v: 1. UNKNOWN; NULL; INDEX.")
    private static void p23_the_first_and_the_last_cell() {
        GlassHill x = new GlassHill();
        x.sheet(3, INTS, 60);
        due("the first", x.put(3, 0, 5), 1);
        due("the last", x.put(3, 59, 6), 1);
        due("the first", x.cell(3, 0, INTS), 5);
        due("the last", x.cell(3, 59, INTS), 6);
        due("between", x.cell(3, 58, INTS), 0);
    }

    @Says("UNKNOWN; NULL; INDEX.")
    private static void p23_a_sheet_that_there_is_not() {
        for (int k : NO_SHEETS) {
            refused("put " + k, x -> x.put(k, 0, 0), UNKNOWN);
        }
    }

    @Says("REFUSALS, in the order in which a call's line tells them: UNKNOWN")
    private static void p23_unknown_ahead_of_faults() {
        for (int k : NO_SHEETS) {
            refused("put " + k, x -> x.put(k, -1, 0), UNKNOWN);
            refused("put " + k, x -> x.put(k, 60, 0), UNKNOWN);
        }
    }

    @Says("1 NULL (there is nothing)")
    private static void p23_a_sheet_that_has_nothing() {
        faulted("put", x -> x.put(3, 0, 0), NULL);
        faulted("put", x -> x.put(3, 59, 0), NULL);
    }

    @Says("Of a call the first that is come to, in the order told")
    private static void p23_null_ahead_of_index() {
        faulted("i -1", x -> x.put(3, -1, 0), NULL);
        faulted("i 60", x -> x.put(3, 60, 0), NULL);
    }

    @Says("UNKNOWN; NULL; INDEX.")
    private static void p23_a_cell_that_there_is_not() {
        for (int i : new int[] {-1, 2, 3, 59, 60, MOST, LEAST}) {
            faulted("put at " + i, x -> x.put(2, i, 7), INDEX);
        }
        faulted("bytes, too", x -> x.put(0, 20, 7), INDEX);
        faulted("ints, too", x -> x.put(1, 35, 7), INDEX);
    }

    // ---- promise 24: cell

    @Says("Cell i of what a SHEET has, taken as a row of a LANE.")
    private static void p24_the_first_and_the_last_cell() {
        for (int lane = BYTES; lane <= INTS; lane++) {
            GlassHill x = new GlassHill();
            write(x, lane + 1, lane, -5, 0, 6);
            row(x, lane + 1, lane, -5, 0, 6);
            due("then fault()", x.fault(), INDEX);
            due("the last", x.cell(lane + 1, 2, lane), 6);
            due("then fault()", x.fault(), 0);
        }
    }

    @Says("LOST: UNKNOWN, OUTSIDE: lane; FAULTS CAST (nothing is no CAST), NULL, INDEX.")
    private static void p24_a_sheet_that_there_is_not() {
        for (int k : NO_SHEETS) {
            refused("cell of " + k, x -> x.cell(k, 0, BYTES), LOST);
        }
    }

    @Says("LOST: UNKNOWN, OUTSIDE: lane; FAULTS CAST (nothing is no CAST), NULL, INDEX.")
    private static void p24_a_lane_that_there_is_not() {
        for (int lane : NO_LANES) {
            refused("lane " + lane, x -> x.cell(0, 0, lane), LOST);
        }
    }

    @Says("REFUSALS, in the order in which a call's line tells them: UNKNOWN")
    private static void p24_unknown_and_outside_ahead_of_faults() {
        for (int k : NO_SHEETS) {
            refused("sheet " + k, x -> x.cell(k, -1, BYTES), LOST);
        }
        for (int lane : NO_LANES) {
            refused("of nothing, lane " + lane, x -> x.cell(3, 0, lane), LOST);
            refused("i -1, lane " + lane, x -> x.cell(0, -1, lane), LOST);
        }
    }

    @Says("Of a call the first that is come to, in the order told")
    private static void p24_cast_and_null_ahead_of_index() {
        faulted("CAST", x -> x.cell(0, -1, SHORTS), LOST, CAST);
        faulted("CAST", x -> x.cell(1, 35, BYTES), LOST, CAST);
        faulted("CAST", x -> x.cell(2, MOST, INTS), LOST, CAST);
        for (int lane = BYTES; lane <= INTS; lane++) {
            int asked = lane;
            faulted("NULL", x -> x.cell(3, -1, asked), LOST, NULL);
            faulted("NULL", x -> x.cell(3, MOST, asked), LOST, NULL);
        }
    }

    @Says("FAULTS CAST (nothing is no CAST), NULL, INDEX.")
    private static void p24_a_sheet_of_another_lane() {
        for (int k = 0; k < 3; k++) {
            int lane = new int[] {BYTES, INTS, SHORTS}[k];
            for (int other = BYTES; other <= INTS; other++) {
                int sheet = k;
                int asked = other;
                if (other != lane) {
                    faulted("cell", x -> x.cell(sheet, 0, asked), LOST, CAST);
                }
            }
        }
    }

    @Says("FAULTS CAST (nothing is no CAST), NULL, INDEX.")
    private static void p24_nothing_is_no_cast() {
        for (int lane = BYTES; lane <= INTS; lane++) {
            int asked = lane;
            faulted("cell", x -> x.cell(3, 0, asked), LOST, NULL);
        }
    }

    @Says("it answers -10 less it (LOST, where a long is answered, as for refusals) and changes nothing; fault() tells it.")
    private static void p24_a_cell_that_there_is_not() {
        for (int i : new int[] {-1, 2, 59, 60, MOST, LEAST}) {
            faulted("cell " + i, x -> x.cell(2, i, SHORTS), LOST, INDEX);
        }
    }

    // ---- promise 25: copy

    @Says("n cells of a SHEET from i on go to another one (perhaps the same) from j on, as they were: n.")
    private static void p25_to_the_same_as_they_were() {
        GlassHill x = new GlassHill();
        write(x, 0, INTS, 1, 2, 3, 4, 5);
        due("upwards", x.copy(0, 0, 0, 1, 4), 4);
        row(x, 0, INTS, 1, 1, 2, 3, 4);
        due("downwards", x.copy(0, 1, 0, 0, 4), 4);
        row(x, 0, INTS, 1, 2, 3, 4, 4);
        due("onto themselves", x.copy(0, 0, 0, 0, 5), 5);
        row(x, 0, INTS, 1, 2, 3, 4, 4);
    }

    @Says("n cells of a SHEET from i on go to another one (perhaps the same) from j on, as they were: n.")
    private static void p25_to_another_one() {
        for (int lane = BYTES; lane <= INTS; lane++) {
            GlassHill x = new GlassHill();
            write(x, 0, lane, 1, -2, 3, 4, 5);
            write(x, 3, lane, 9, 9, 9);
            due("the last two", x.copy(0, 3, 3, 1, 2), 2);
            row(x, 3, lane, 9, 4, 5);
            due("just all", x.copy(3, 0, 0, 2, 3), 3);
            row(x, 0, lane, 1, -2, 9, 4, 5);
            row(x, 3, lane, 9, 4, 5);
        }
    }

    @Says("n cells of a SHEET from i on go to another one (perhaps the same) from j on, as they were: n.")
    private static void p25_none_at_the_ends() {
        keeps("none", x -> meet(x, NULL), x -> x.copy(2, 2, 2, 2, 0), 0, 0);
        keeps("none", x -> meet(x, NULL), x -> x.copy(1, 35, 1, 0, 0), 0, 0);
        keeps("none", x -> meet(x, NULL), x -> x.copy(1, 0, 1, 35, 0), 0, 0);
    }

    @Says("UNKNOWN; FAULTS NULL (the first, the other), CAST (unlike LANES), INDEX")
    private static void p25_a_sheet_that_there_is_not() {
        for (int k : NO_SHEETS) {
            refused("the first " + k, x -> x.copy(k, 0, 1, 0, 1), UNKNOWN);
            refused("the other " + k, x -> x.copy(1, 0, k, 0, 1), UNKNOWN);
            refused("both " + k, x -> x.copy(k, 0, k, 0, 1), UNKNOWN);
        }
    }

    @Says("REFUSALS, in the order in which a call's line tells them: UNKNOWN")
    private static void p25_unknown_ahead_of_faults() {
        for (int k : NO_SHEETS) {
            refused("the other, ahead of NULL", x -> x.copy(3, 0, k, 0, 1), UNKNOWN);
            refused("the first, ahead of NULL", x -> x.copy(k, 0, 3, 0, 1), UNKNOWN);
            refused("ahead of INDEX", x -> x.copy(k, -1, 1, -1, -1), UNKNOWN);
            refused("ahead of INDEX", x -> x.copy(1, -1, k, -1, -1), UNKNOWN);
        }
    }

    @Says("Of a call the first that is come to, in the order told")
    private static void p25_faults_in_the_order_told() {
        faulted("NULL ahead of CAST, INDEX", x -> x.copy(3, -1, 1, 0, 1), NULL);
        faulted("NULL ahead of CAST, INDEX", x -> x.copy(1, 0, 3, -1, 1), NULL);
        faulted("NULL ahead of INDEX", x -> x.copy(3, 0, 3, 0, -1), NULL);
        faulted("CAST ahead of INDEX of i", x -> x.copy(0, -1, 1, 0, 1), CAST);
        faulted("CAST ahead of INDEX of j", x -> x.copy(1, 0, 2, 3, 1), CAST);
        faulted("CAST ahead of INDEX of n", x -> x.copy(2, 0, 0, 0, -1), CAST);
    }

    @Says("FAULTS NULL (the first, the other), CAST (unlike LANES), INDEX")
    private static void p25_a_sheet_that_has_nothing() {
        faulted("the first", x -> x.copy(3, 0, 1, 0, 1), NULL);
        faulted("the other", x -> x.copy(1, 0, 3, 0, 1), NULL);
        faulted("both", x -> x.copy(3, 0, 3, 0, 0), NULL);
    }

    @Says("CAST (unlike LANES), INDEX: i, j, n below 0 or beyond.")
    private static void p25_unlike_lanes() {
        for (int k = 0; k < 3; k++) {
            for (int other = 0; other < 3; other++) {
                int from = k;
                int to = other;
                if (k != other) {
                    faulted("copy", x -> x.copy(from, 0, to, 0, 1), CAST);
                    faulted("none of them", x -> x.copy(from, 0, to, 0, 0), CAST);
                }
            }
        }
    }

    @Says("INDEX: i, j, n below 0 or beyond.")
    private static void p25_below_0() {
        for (int below : new int[] {-1, LEAST}) {
            faulted("i", x -> x.copy(1, below, 1, 0, 1), INDEX);
            faulted("j", x -> x.copy(1, 0, 1, below, 1), INDEX);
            faulted("n", x -> x.copy(1, 0, 1, 0, below), INDEX);
            faulted("n at the ends", x -> x.copy(1, 35, 1, 35, below), INDEX);
            faulted("i and n", x -> x.copy(1, below, 1, 0, below), INDEX);
        }
    }

    @Says("INDEX: i, j, n below 0 or beyond.")
    private static void p25_beyond() {
        faulted("i and n", x -> x.copy(1, 34, 1, 0, 2), INDEX);
        faulted("j and n", x -> x.copy(1, 0, 1, 34, 2), INDEX);
        faulted("n", x -> x.copy(1, 0, 1, 0, 36), INDEX);
        for (int beyond : new int[] {36, MOST}) {
            faulted("i", x -> x.copy(1, beyond, 1, 0, 1), INDEX);
            faulted("j", x -> x.copy(1, 0, 1, beyond, 1), INDEX);
            faulted("n", x -> x.copy(1, 1, 1, 1, beyond), INDEX);
            faulted("i and n", x -> x.copy(1, beyond, 1, 0, beyond), INDEX);
        }
    }

    @Says("INDEX (of cells from i on also where i is not 0 .. how many there are, if none of them is taken, too)")
    private static void p25_index_if_none_is_taken() {
        for (int place : new int[] {-1, 36, MOST, LEAST}) {
            faulted("i " + place, x -> x.copy(1, place, 1, 0, 0), INDEX);
            faulted("j " + place, x -> x.copy(1, 0, 1, place, 0), INDEX);
        }
    }

    @Says("INDEX: i, j, n below 0 or beyond.")
    private static void p25_beyond_the_shorter_of_both() {
        GlassHill x = new GlassHill();
        write(x, 0, INTS, 1, 2, 3);
        write(x, 1, INTS, 7, 8);
        due("to the shorter one", x.copy(0, 0, 1, 0, 3), -10 - INDEX);
        due("from the shorter one", x.copy(1, 0, 0, 0, 3), -10 - INDEX);
        row(x, 0, INTS, 1, 2, 3);
        row(x, 1, INTS, 7, 8);
    }

    // ---- promise 26: tell

    @Says("RIDER (1): NAILS. NIGHT (2): what RIDER's gives, and 100.")
    private static void p26_nails_0_and_9() {
        GlassHill x = built("a200,r000,r009,n000,n009,l000");
        int[] due = {0, 9, 100, 109, 100};
        for (int r = 0; r < 5; r++) {
            due("tell " + r, x.tell(r), due[r]);
        }
        x.shoe(4, 9);
        due("the most", x.tell(4), 118);
    }

    @Says("LAD (3): what NIGHT's gives, and what RIDER's gives (NIGHT's left out).")
    private static void p26_of_a_lad_the_nights_is_left_out_once() {
        GlassHill x = built("a200,l005");
        due("tell", x.tell(0), 110);
        due("trace: 3, 2, 1, 1", x.trace(), ((3 * 31 + 2) * 31 + 1) * 31 + 1);
    }

    @Says("UNKNOWN (there is no such RIDER, PACE, SHEET, place)")
    private static void p26_a_rider_that_there_is_not() {
        for (int r : NO_RIDERS) {
            refusedBesideFaults("tell " + r, x -> x.tell(r), UNKNOWN);
        }
    }

    // ---- promise 27: cheer

    @Says("CHEERED by a lent body (4): his number; LADS have their own (5): 80.")
    private static void p27_the_first_and_the_last_rider() {
        GlassHill x = built("a200,r000,n000,l000,l000,n000");
        int[] due = {0, 1, 80, 80, 4};
        int trace = 0;
        for (int r = 0; r < 5; r++) {
            due("cheer " + r, x.cheer(r), due[r]);
            trace = 31 * trace + (due[r] == 80 ? 5 : 4);
            due("trace", x.trace(), trace);
        }
    }

    @Says("UNKNOWN (there is no such RIDER, PACE, SHEET, place)")
    private static void p27_a_rider_that_there_is_not() {
        for (int r : NO_RIDERS) {
            refusedBesideFaults("cheer " + r, x -> x.cheer(r), UNKNOWN);
        }
    }

    // ---- promise 28: as

    @Says("CAST: he is none (each is a RIDER, too; a LAD is a NIGHT one).")
    private static void p28_he_is_one() {
        for (int r = 0; r < 3; r++) {
            for (int kind = 0; kind <= r; kind++) {
                int who = r;
                int taken = kind;
                keeps(r + " as " + kind, x -> meet(x, NULL), x -> x.as(who, taken), 1, 0);
            }
        }
    }

    @Says("CAST: he is none (each is a RIDER, too; a LAD is a NIGHT one).")
    private static void p28_he_is_none() {
        for (int r = 0; r < 3; r++) {
            for (int kind = r + 1; kind < 3; kind++) {
                int who = r;
                int taken = kind;
                faulted(r + " as " + kind, x -> x.as(who, taken), CAST);
            }
        }
    }

    @Says("A RIDER, taken as one of a kind: 1. UNKNOWN; OUTSIDE; CAST")
    private static void p28_kind_is_0_to_2() {
        for (int kind : new int[] {-1, 3, MOST, LEAST}) {
            refused("as " + kind, x -> x.as(2, kind), OUTSIDE);
            refused("a rider as " + kind, x -> x.as(0, kind), OUTSIDE);
        }
    }

    @Says("A RIDER, taken as one of a kind: 1. UNKNOWN; OUTSIDE; CAST")
    private static void p28_a_rider_that_there_is_not() {
        for (int r : NO_RIDERS) {
            refused(r + " as 0", x -> x.as(r, 0), UNKNOWN);
        }
    }

    @Says("REFUSALS, in the order in which a call's line tells them: UNKNOWN")
    private static void p28_unknown_ahead_of_outside_and_cast() {
        for (int r : NO_RIDERS) {
            refused(r + " as 3", x -> x.as(r, 3), UNKNOWN);
            refused(r + " as 2", x -> x.as(r, 2), UNKNOWN);
        }
    }

    // ---- promise 29: trace

    @Says("TRACE (an int that wraps, 0 at first, becomes 31 times it and the number) as they begin")
    private static void p29_0_at_first() {
        due("trace", new GlassHill().trace(), 0);
        GlassHill x = built("a200,r000");
        due("behind a hill", x.trace(), 0);
        x.cheer(0);
        due("31 times 0 and 4", x.trace(), 4);
    }

    @Says("TRACE (an int that wraps, 0 at first, becomes 31 times it and the number)")
    private static void p29_it_wraps() {
        GlassHill x = built("a200,l000");
        long trace = 0;
        boolean below = false;
        boolean beyond = false;
        for (int c = 0; c < 40; c++) {
            x.cheer(0);
            beyond |= trace * 31 + 5 > MOST;
            trace = (int) (trace * 31 + 5);
            below |= trace < 0;
            due("trace", x.trace(), trace);
        }
        due("it went beyond and below 0", beyond && below ? 1 : 0, 1);
    }

    // ---- promise 30: fault

    @Says("0: it came to none, or was refused (0 ahead of any).")
    private static void p30_0_ahead_of_any() {
        GlassHill x = new GlassHill();
        due("new", x.fault(), 0);
        x.many(9);
        x.ofPace(0, 0);
        due("behind calls that name none", x.fault(), 0);
    }

    @Says("The FAULT of the latest call that names one: 0: it came to none, or was refused")
    private static void p30_each_call_that_came_to_none() {
        cameToNone("hill", x -> x.hill(0, BYTES, 0, 20));
        cameToNone("hill of a wrong text", x -> x.hill(0, BYTES, 1, 19));
        cameToNone("days", x -> x.days(1, INTS, 0, 3, 0));
        cameToNone("days with a FIRST WRONG", x -> x.days(1, INTS, 0, 4, 0));
        cameToNone("speeds", x -> x.speeds(0, 1, INTS, 0, 3, 1));
        cameToNone("nails", x -> x.nails(0, 1, INTS, 0, 3));
        cameToNone("slicks", x -> x.slicks(0, 1, INTS, 0, 3));
        cameToNone("kinds", x -> x.kinds(0, 1, INTS, 0, 3));
        cameToNone("odds", x -> x.odds(0, 1, INTS, 0, 3, 0));
        cameToNone("sheet", x -> x.sheet(3, INTS, 3));
        cameToNone("put", x -> x.put(2, 0, 0));
        cameToNone("cell", x -> x.cell(2, 0, SHORTS));
        cameToNone("copy", x -> x.copy(2, 0, 2, 1, 1));
        cameToNone("as", x -> x.as(0, 0));
    }

    private static void cameToNone(String call, Call asked) {
        for (int met : new int[] {NULL, INDEX}) {
            GlassHill x = full();
            meet(x, met);
            due("ahead", x.fault(), met);
            asked.on(x);
            due("behind " + call, x.fault(), 0);
        }
    }

    @Says("The FAULT of the latest call that names one")
    private static void p30_calls_that_name_none_leave_it() {
        Call[] calls = {x -> x.ofPace(0, 0), x -> x.ofRider(0, 0), x -> x.scratch(0, 1),
            x -> x.speed(0, 7), x -> x.shoe(0, 3), x -> x.takes(0, 0, 0), x -> x.fewest(0, -1),
            x -> x.sand(0), x -> x.game(0, 1, 2), x -> x.worth(0), x -> x.reading(0, 0),
            x -> x.back(1), x -> x.lose(3), x -> x.lose(0), x -> x.tell(0), x -> x.cheer(0),
            x -> x.trace(), x -> x.fault(), x -> x.many(0)};
        for (int c = 0; c < calls.length; c++) {
            GlassHill x = full();
            x.sheet(3, INTS, -1);
            due("ahead", x.fault(), SIZE);
            calls[c].on(x);
            due("behind call " + c, x.fault(), SIZE);
        }
    }

    @Says("The FAULT of the latest call that names one")
    private static void p30_the_latest_of_several() {
        GlassHill x = full();
        x.put(3, 0, 0);
        due("NULL", x.fault(), NULL);
        x.as(0, 1);
        due("CAST", x.fault(), CAST);
        x.put(2, 2, 0);
        due("INDEX", x.fault(), INDEX);
        x.sheet(0, 0, -1);
        due("SIZE", x.fault(), SIZE);
        due("told again", x.fault(), SIZE);
        x.as(0, 3);
        due("refused", x.fault(), 0);
    }

    // ---- promise 31: many

    @Says("How many: 0 RIDERS, 1 PACES, 2 READINGS (0 all without a HILL). OUTSIDE.")
    private static void p31_0_all_without_a_hill() {
        GlassHill x = new GlassHill();
        for (int what = 0; what < 3; what++) {
            due("many " + what, x.many(what), 0);
        }
        due("a text with a fault", hillBy(x, "a200,r00"), -108);
        for (int what = 0; what < 3; what++) {
            due("still, many " + what, x.many(what), 0);
        }
        due("what 3", x.many(3), OUTSIDE);
    }

    @Says("How many: 0 RIDERS, 1 PACES, 2 READINGS (0 all without a HILL). OUTSIDE.")
    private static void p31_the_most() {
        GlassHill x = built("a800000000,r000,r000,r000,r000,r000");
        for (int k = 0; k < 9; k++) {
            x.reading(0, 0);
        }
        due("riders", x.many(0), 5);
        due("paces", x.many(1), 8);
        due("readings", x.many(2), 8);
    }

    @Says("OUTSIDE (another number is not as told)")
    private static void p31_what_is_0_to_2() {
        for (int what : new int[] {-1, 3, MOST, LEAST}) {
            refusedBesideFaults("many " + what, x -> x.many(what), OUTSIDE);
        }
    }
}
