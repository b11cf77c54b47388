import java.util.ArrayList;
import java.util.LinkedHashMap;
import java.util.List;
import java.util.Map;
import java.util.function.Predicate;

/**
 * "A call that is refused changes nothing": of two objects that are made alike one is given a call
 * that it refuses, and from then on both answer all the same.
 */
public final class RefusedCallsTest {
    private static final Due DUE = new Due();

    public static void main(String[] args) {
        Map<String, Predicate<RateChains>> calls = new LinkedHashMap<>();
        refusedBuilding(calls);
        refusedGrams(calls);
        refusedWhenSolved(calls);
        refusedAsking(calls);
        asking(calls);
        for (Map.Entry<String, Predicate<RateChains>> call : calls.entrySet()) {
            DUE.about(call.getKey());
            changesNothing(call.getValue());
        }
        refusedWhenFull();
        refusedWhenNew();
        DUE.end();
    }

    /** Solved, claimed and drawn, then changed in all ways, and with a ring of plant 3 now. */
    private static RateChains sample() {
        RateChains x = Edges.withPlants(4);
        x.share(0, 1, 1, 2);
        x.share(0, 2, 1, 10);
        x.share(1, 0, 1, 5);
        x.share(1, 2, 7, 10);
        x.point(2, 0);
        x.point(2, 3);
        x.average(2, 1, 10);
        x.average(3, 2, 5);
        for (int row = 0; row < 8; row++) {
            x.feed(row % 3, row % 4, 100 + row, row % 3, row % 2);
        }
        x.metals(1, 40);
        x.placed(3, 1, 50);
        x.placed(0, 0, 60);
        for (char c : "a#00#31b".toCharArray()) {
            x.unit(c);
        }
        x.solve();
        x.claim(0, 3, 2, 11);
        x.claim(0, 0, 1, 7);
        x.audit(20261116, 5);
        x.feed(3, 1, 9, 1, 3);
        x.feed(0, 3, 8, 0, 0);
        x.metals(1, 41);
        x.metals(2, 42);
        x.point(0, 2);
        x.average(1, 1, 2);
        x.share(3, 3, 1, 1);
        return x;
    }

    private static void changesNothing(Predicate<RateChains> call) {
        RateChains one = sample();
        RateChains other = sample();
        DUE.yes("it is answered as due", call.test(other));
        same("at once", answers(one), answers(other));

        one = sample();
        other = sample();
        call.test(other);
        same("when solved again", solvedAgain(one), solvedAgain(other));

        one = sample();
        other = sample();
        call.test(other);
        same("when filled up", room(one), room(other));
    }

    private static void same(String when, List<Long> due, List<Long> got) {
        DUE.same(when + ", how many answers", got.size(), due.size());
        for (int at = 0; at < due.size() && at < got.size(); at++) {
            DUE.same(when + ", answer " + at, got.get(at), due.get(at));
        }
    }

    /** All that can be asked without a change, some 240 calls. */
    private static List<Long> answers(RateChains x) {
        List<Long> answers = new ArrayList<>();
        for (int kind = 0; kind < 4; kind++) {
            for (int year = 0; year < 3; year++) {
                for (int part = 0; part < 2; part++) {
                    answers.add(x.counted(kind, year, part));
                    answers.add(x.rate(kind, year, part));
                }
                for (int country = 0; country < 4; country++) {
                    answers.add(x.left(country, kind, year));
                }
            }
        }
        for (int k = 0; k < 21; k++) {
            answers.add(x.open(0, 1, k, 0));
            answers.add(x.open(0, 1, k, 1));
            answers.add(x.open(2, 0, k, 0));
        }
        for (int k = 0; k < 7; k++) {
            answers.add((long) x.twice(k));
            answers.add((long) x.told(k));
            answers.add((long) x.drawn(k));
        }
        for (int i = 0; i < 12; i++) {
            answers.add((long) x.form(i));
        }
        answers.add(x.once() ? 1L : 0L);
        return answers;
    }

    private static List<Long> solvedAgain(RateChains x) {
        List<Long> answers = new ArrayList<>();
        answers.add((long) x.solve());
        x.share(3, 3, 0, 1);
        answers.add((long) x.solve());
        answers.addAll(answers(x));
        return answers;
    }

    /** How much room there is for more: shares, points, plants, feeds and bytes. */
    private static List<Long> room(RateChains x) {
        List<Long> answers = new ArrayList<>();
        for (int plant = 0; plant < 4; plant++) {
            for (int tenths = 0; tenths <= 10; tenths++) {
                answers.add(x.share(plant, 1, tenths, 10) ? 1L : 0L);
            }
            for (int kind = 0; kind < 4; kind++) {
                answers.add(x.point(plant, kind) ? 1L : 0L);
            }
        }
        for (int more = 0; more < 3; more++) {
            answers.add((long) x.plant());
        }
        // The plant that is new now has nothing of what was refused while it was not there.
        answers.add(x.share(4, 1, 10, 10) ? 1L : 0L);
        answers.add(x.point(4, 1) ? 1L : 0L);
        for (int k = 0; k < 21; k++) {
            answers.add((long) x.twice(k));
        }
        long feeds = 0;
        while (feeds < 70 && x.feed(0, 0, 0, 0, 0)) {
            feeds++;
        }
        answers.add(feeds);
        answers.add((long) x.audit(3, 60));
        long units = 0;
        while (units < 210 && x.unit('.')) {
            units++;
        }
        answers.add(units);
        return answers;
    }

    private static void refusedBuilding(Map<String, Predicate<RateChains>> calls) {
        for (int no : new int[] {-1, 4, 5, Integer.MIN_VALUE, Integer.MAX_VALUE}) {
            calls.put("share of plant " + no, x -> !x.share(no, 0, 1, 10));
            calls.put("share to plant " + no, x -> !x.share(2, no, 1, 10));
            calls.put("point of plant " + no, x -> !x.point(no, 1));
            calls.put("average of plant " + no, x -> !x.average(no, 1, 1));
            calls.put("feed of plant " + no, x -> !x.feed(no, 0, 1, 0, 0));
        }
        calls.put("share of 1/3", x -> !x.share(2, 0, 1, 3));
        calls.put("share of 3/2", x -> !x.share(2, 0, 3, 2));
        calls.put("share of -1/2", x -> !x.share(0, 1, -1, 2));
        calls.put("share of 0/0", x -> !x.share(0, 1, 0, 0));
        calls.put("share of 1/-2", x -> !x.share(0, 1, 1, -2));
        calls.put("shares that would be more than 1", x -> !x.share(0, 1, 1, 1));
        calls.put("shares that would be 11/10", x -> !x.share(1, 3, 1, 5));
        calls.put("point that it is already", x -> !x.point(2, 3));
        calls.put("average of 11/10", x -> !x.average(2, 11, 10));
        calls.put("average of -1/10", x -> !x.average(2, -1, 10));
        calls.put("average of 1/4", x -> !x.average(0, 1, 4));
        for (int no : Edges.NO_KINDS) {
            calls.put("point of kind " + no, x -> !x.point(0, no));
            calls.put("feed of kind " + no, x -> !x.feed(0, no, 1, 0, 0));
            calls.put("feed of country " + no, x -> !x.feed(0, 0, 1, 0, no));
            calls.put("placed of kind " + no, x -> !x.placed(no, 0, 1));
        }
        for (int no : Edges.NO_YEARS) {
            calls.put("feed of year " + no, x -> !x.feed(0, 0, 1, no, 0));
            calls.put("metals of year " + no, x -> !x.metals(no, 1));
            calls.put("placed of year " + no, x -> !x.placed(0, no, 1));
        }
        for (int no : new int[] {-1, 256, 256 + '#', Integer.MIN_VALUE, Integer.MAX_VALUE}) {
            calls.put("unit " + no, x -> !x.unit(no));
        }
    }

    private static void refusedGrams(Map<String, Predicate<RateChains>> calls) {
        for (long no : new long[] {-1, 1000000001L, Long.MIN_VALUE, Long.MAX_VALUE}) {
            calls.put("feed of " + no + " grams", x -> !x.feed(0, 0, no, 0, 0));
            calls.put("metals of " + no + " grams", x -> !x.metals(1, no));
        }
        for (long no : new long[] {-1, 100000000001L, Long.MIN_VALUE, Long.MAX_VALUE}) {
            calls.put("placed of " + no + " grams", x -> !x.placed(3, 1, no));
        }
        for (long no : new long[] {-1, 0, 1000000000000L, 1000000000001L, Long.MIN_VALUE, Long.MAX_VALUE}) {
            calls.put("claim of " + no + " grams", x -> x.claim(0, 3, 1, no) == -1);
        }
    }

    private static void refusedWhenSolved(Map<String, Predicate<RateChains>> calls) {
        calls.put("solve that does not stand", x -> x.solve() == 4);
        calls.put("claim of one more than there is", x -> x.claim(0, 3, 2, all(x) + 1) == -1);
        for (int no : Edges.NO_COUNTRIES) {
            calls.put("claim of country " + no, x -> x.claim(no, 3, 1, 1) == -1);
            calls.put("claim of kind " + no, x -> x.claim(0, no, 1, 1) == -1);
        }
        for (int no : Edges.NO_YEARS) {
            calls.put("claim of year " + no, x -> x.claim(0, 3, no, 1) == -1);
        }
        for (int no : new int[] {-1, 0, 11, 60, Integer.MIN_VALUE, Integer.MAX_VALUE}) {
            calls.put("audit of " + no, x -> x.audit(1, no) == -1);
        }
    }

    private static long all(RateChains x) {
        return x.left(0, 3, 0) + x.left(0, 3, 1) + x.left(0, 3, 2);
    }

    private static void refusedAsking(Map<String, Predicate<RateChains>> calls) {
        for (int no : Edges.NO_KINDS) {
            calls.put("counted of kind " + no, x -> x.counted(no, 0, 0) == -1);
            calls.put("rate of kind " + no, x -> x.rate(no, 0, 0) == -1);
            calls.put("left of kind " + no, x -> x.left(0, no, 0) == -1);
            calls.put("left of country " + no, x -> x.left(no, 0, 0) == -1);
        }
        for (int no : Edges.NO_YEARS) {
            calls.put("counted of year " + no, x -> x.counted(0, no, 0) == -1);
            calls.put("rate of year " + no, x -> x.rate(0, no, 0) == -1);
            calls.put("left of year " + no, x -> x.left(0, 0, no) == -1);
            calls.put("open of year " + no, x -> x.open(no, 0, 0, 1) == 0 && x.open(0, no, 0, 1) == 0);
        }
        for (int no : new int[] {-1, 200, Integer.MIN_VALUE, Integer.MAX_VALUE}) {
            calls.put("twice of " + no, x -> x.twice(no) == -1);
            calls.put("told of " + no, x -> x.told(no) == -1);
            calls.put("drawn of " + no, x -> x.drawn(no) == -1);
            calls.put("form of " + no, x -> x.form(no) == -1);
            calls.put("open of " + no, x -> x.open(0, 1, no, 1) == 0);
        }
    }

    /** What only asks changes nothing either. */
    private static void asking(Map<String, Predicate<RateChains>> calls) {
        calls.put("counted", x -> x.counted(3, 1, 0) > 0);
        calls.put("rate", x -> x.rate(3, 1, 1) > 0);
        calls.put("twice", x -> x.twice(0) == 8);
        calls.put("told", x -> x.told(0) == -1);
        calls.put("once", x -> x.once());
        calls.put("left", x -> x.left(0, 3, 1) > 0);
        calls.put("open", x -> x.open(0, 1, 0, 1) > 0);
        calls.put("drawn", x -> x.drawn(4) >= 0);
        calls.put("form", x -> x.form(0) == 'a');
    }

    private static RateChains full() {
        RateChains x = Edges.withPlants(5);
        x.point(0, 0);
        for (int row = 0; row < 60; row++) {
            x.feed(0, 0, 1 + row, row % 3, row % 4);
        }
        for (int at = 0; at < 200; at++) {
            x.unit("#00".charAt(at % 3));
        }
        return x;
    }

    private static void refusedWhenFull() {
        Map<String, Predicate<RateChains>> calls = new LinkedHashMap<>();
        calls.put("plant when there are 5", x -> x.plant() == -1);
        calls.put("feed when there are 60", x -> !x.feed(0, 0, 7, 0, 0));
        calls.put("unit when there are 200", x -> !x.unit('0'));
        for (Map.Entry<String, Predicate<RateChains>> call : calls.entrySet()) {
            DUE.about(call.getKey());
            RateChains one = full();
            RateChains other = full();
            DUE.yes("it is refused", call.getValue().test(other));
            same("at once", fullAnswers(one), fullAnswers(other));
            one.solve();
            other.solve();
            same("when solved", fullAnswers(one), fullAnswers(other));
        }
    }

    private static List<Long> fullAnswers(RateChains x) {
        List<Long> answers = new ArrayList<>();
        for (int year = 0; year < 3; year++) {
            answers.add(x.counted(0, year, 0));
            answers.add(x.left(0, 0, year));
            answers.add(x.open(0, year, 0, 0));
        }
        answers.add((long) x.form(0));
        answers.add((long) x.form(66));
        answers.add((long) x.form(198));
        answers.add((long) x.form(200));
        answers.add((long) x.audit(1, 60));
        answers.add((long) x.drawn(0));
        answers.add((long) x.drawn(59));
        answers.add((long) x.audit(1, 61));
        answers.add((long) x.plant());
        answers.add(x.point(5, 0) ? 1L : 0L);
        return answers;
    }

    /** Before anything was solved, what is refused leaves the object as a new one. */
    private static void refusedWhenNew() {
        DUE.about("refused by a new object");
        RateChains x = new RateChains();
        DUE.no("share", x.share(0, 0, 1, 1));
        DUE.no("point", x.point(0, 0));
        DUE.no("average", x.average(0, 1, 2));
        DUE.no("feed", x.feed(0, 0, 5, 0, 0));
        DUE.no("metals", x.metals(0, -1));
        DUE.no("placed", x.placed(0, 0, -1));
        DUE.same("claim", x.claim(0, 0, 0, 1), -1);
        DUE.same("audit", x.audit(0, 1), -1);
        DUE.no("unit", x.unit(-1));
        DUE.same("drawn", x.drawn(0), -1);
        DUE.same("form", x.form(0), -1);
        DUE.same("counted", x.counted(0, 0, 0), -1);
        DUE.same("plant", x.plant(), 0);
        DUE.yes("the point is free", x.point(0, 0));
        DUE.same("no average was kept", x.twice(0), -1);
        DUE.yes("feed", x.feed(0, 0, 3, 0, 0));
        DUE.same("it is the first row", x.audit(0, 2), -1);
        DUE.same("no share was kept", x.solve(), 0);
        DUE.counted(x, 0, 0, 3, 1);
        DUE.counted(x, 3, 0, 0, 1);
        DUE.rate(x, 0, 0, 0, 0);
        DUE.same("no claim was kept", x.left(0, 0, 0), 3);
    }
}
