import java.util.NoSuchElementException;

/**
 * Each promise at the least and the greatest value that it allows. (What is just beyond is refused:
 * see RefusedTest. The bounds that "Terms" names are in TermsTest.)
 */
public final class EdgesTest {
    public static void main(String[] args) {
        promise01NoPeopleAtTheSecond0();
        promise02TheLeastFreeNumber();
        promise03TheFirstAndTheLastOne();
        promise03NobodyHasItPinned();
        promise03ItIsForgotten();
        promise04TheLeastAndTheGreatestRates();
        promise04InPlaceOfTheOneBefore();
        promise05EndAtOnceAndAgain();
        promise06MuteTheFirstAndTheLastOne();
        promise07LevelsFrom0To100();
        promise07UntilItIsSetAgain();
        promise08From0To6();
        promise09PinTheFirstTheLastAndNone();
        promise10PlacesFrom0To5();
        promise11EstimatesFrom0To2000();
        promise12HoldFrom1To10();
        promise12LimitFrom0To10();
        promise13SecondsFrom1To20();
        promise14NoSecondByOtherCalls();
        promise15NoneAndEachOne();
        promise16SeenFrom0To5();
        promise17TheFirstAndTheLastPlace();
        promise18And19EveryEstimate();
        promise20ALayerOfItself();
        promise21SentFrom0To1500();
        promise22KeysFrom0();
        promise23AskedForTheLimit();
        Check.end();
    }

    private static Confroom room(int people) {
        Confroom room = new Confroom();
        for (int person = 0; person < people; person++) {
            Check.is("2: join()", room.join(), person);
        }
        return room;
    }

    /** All six publish, and each receiver has 5 places and the estimate 2000. */
    private static Confroom full(int base, int step) {
        Confroom room = room(6);
        for (int person = 0; person < 6; person++) {
            room.publish(person, base, step);
            room.setPlaces(person, 5);
            room.setEstimate(person, 2000);
        }
        return room;
    }

    // "Begins without people, at the second 0."
    private static void promise01NoPeopleAtTheSecond0() {
        Confroom room = new Confroom();
        Check.is("1: people()", room.people(), 0);
        Check.is("1: now()", room.now(), 0);
        Check.is("1: speaker()", room.speaker(), Confroom.NONE);
        Check.is("1: pass(1)", room.pass(1), 0);
        Check.is("1: now()", room.now(), 1);
        Check.is("1: pass(20)", room.pass(20), 0);
        Check.is("1: now()", room.now(), 21);
        Check.is("1: speaker()", room.speaker(), Confroom.NONE);
        Check.is("1: the first one", room.join(), 0);
        Check.is("1: sees nothing", room.seen(0), 0);
        Check.is("1: is sent nothing", room.sent(0), 0);
    }

    // "one who joins gets the least number from 0 on that is free"; "Throws .. if there are 6"
    private static void promise02TheLeastFreeNumber() {
        for (int first = 0; first < 6; first++) {
            for (int second = 0; second < 6; second++) {
                Confroom room = room(6);
                room.leave(first);
                if (second != first) {
                    room.leave(second);
                    Check.is("2: the least", room.join(), Math.min(first, second));
                }
                Check.is("2: the last free one", room.join(), Math.max(first, second));
                Check.fails("2: the 7th", IllegalStateException.class, room::join);
                Check.is("2: people()", room.people(), 6);
            }
        }
        Confroom turns = new Confroom();
        for (int often = 0; often < 200; often++) {
            Check.is("2: always 0 when nobody is there", turns.join(), 0);
            turns.leave(0);
        }
    }

    private static void promise03TheFirstAndTheLastOne() {
        Confroom room = full(1, 1);
        room.pass(1);
        room.leave(0);
        room.leave(5);
        Check.is("3: people()", room.people(), 4);
        for (int person : new int[] {0, 5}) {
            Check.fails("3: it is not there", NoSuchElementException.class,
                    () -> room.leave(person));
        }
        Check.is("3: seen(1)", room.seen(1), 3);
        Check.is("3: sent(1)", room.sent(1), 9);
        for (int person = 1; person < 5; person++) {
            room.leave(person);
        }
        Check.is("3: all have left", room.people(), 0);
        Check.is("3: no key pictures without people", room.pass(20), 0);
        Check.is("3: the time stays", room.now(), 21);
        Check.is("3: the first of the next ones", room.join(), 0);
    }

    // "nobody has it pinned"
    private static void promise03NobodyHasItPinned() {
        for (int left = 0; left < 6; left += 5) {
            Confroom room = full(1, 1);
            for (int receiver = 0; receiver < 6; receiver++) {
                if (receiver != left) {
                    room.pin(receiver, left);
                }
            }
            room.leave(left);
            room.join();
            for (int receiver = 0; receiver < 6; receiver++) {
                Check.is("3: pinned by " + receiver, room.pin(receiver, -1), -1);
            }
            room.pin(1, 2);
            room.leave(left);
            Check.is("3: another one stays pinned", room.pin(1, -1), 2);
        }
    }

    // "and it is forgotten": all of it is for the next one with its number as it is at first
    private static void promise03ItIsForgotten() {
        for (int left = 0; left < 6; left += 5) {
            Confroom room = full(100, 100);
            room.setTimes(1, 0);
            room.setLevel(left, 100);
            room.pin(left, 2);
            room.pass(1);
            Check.is("3: it speaks", room.speaker(), left);
            Check.is("3: it is the first one to see", room.seenAt(1, 0), left);
            room.mute(left);
            room.leave(left);
            Check.is("3: it speaks no more", room.speaker(), -1);
            Check.is("3: join()", room.join(), left);
            Check.is("3: it is sent nothing", room.sent(left), 0);
            Check.is("3: it sees 3", room.seen(left), 3);
            Check.is("3: its estimate is 100", room.target(left, room.seenAt(left, 0)), 1);
            Check.is("3: the rest is 0", room.target(left, room.seenAt(left, 1)), 0);
            room.publish(left, 100, 100);
            Check.is("3: it never spoke", room.seenAt(1, 4), left);
            Check.is("3: a key picture for it, and one of it", room.pass(1), 2);
            Check.is("3: it is not loud", room.speaker(), -1);
            Check.is("3: it is not muted", room.mute(left), true);
            Check.is("3: its level is 0", room.setLevel(left, 1), 0);
        }
    }

    // "base: 1 to 100", "step: 1 to 100", and what of it is sent
    private static void promise04TheLeastAndTheGreatestRates() {
        int[] edges = {1, 2, 99, 100};
        for (int base : edges) {
            for (int step : edges) {
                Confroom room = room(2);
                room.publish(0, base, step);
                for (int layer = 1; layer <= 3; layer++) {
                    int rate = base + (layer - 1) * step;
                    room.setEstimate(1, rate);
                    room.pass(4);
                    Check.is("4: the layer", room.layer(1, 0), layer);
                    Check.is("4: its rate", room.sent(1), rate);
                    room.setEstimate(1, rate - 1);
                    Check.is("4: just too little", room.target(1, 0), layer - 1);
                }
            }
        }
    }

    // "it begins now, no key picture was made or is asked of it, and nothing of it is sent"
    private static void promise04InPlaceOfTheOneBefore() {
        for (int person = 0; person < 6; person += 5) {
            Confroom room = full(10, 10);
            room.pass(1);
            room.setEstimate(1, 0);
            room.pass(1);
            room.setEstimate(1, 2000);
            room.pass(1);
            Check.is("4: asked before", room.isAsked(person), true);
            room.publish(person, 10, 10);
            Check.is("4: none was made", room.keys(person), 0);
            Check.is("4: none is asked", room.isAsked(person), false);
            for (int receiver = 0; receiver < 6; receiver++) {
                Check.is("4: nothing is sent", room.layer(receiver, person), 0);
            }
            Check.is("4: all other layers stay", room.sent(2), 4 * 30);
            Check.is("4: what it is sent stays", room.layer(person, 2), 3);
            Check.is("4: it begins now", room.seenAt(2, 4), person);
            room.publish(person, 10, 10);
            Check.is("4: it is seen once", room.seen(2), 5);
            Check.is("4: the limit is not that of the one before", room.pass(1), 1);
            Check.is("4: keys", room.keys(person), 1);
        }
    }

    private static void promise05EndAtOnceAndAgain() {
        for (int person : new int[] {0, 5}) {
            Confroom room = room(6);
            for (int often = 0; often < 100; often++) {
                room.publish(person, 1, 1);
                room.end(person);
                Check.fails("5: it has ended", IllegalStateException.class,
                        () -> room.end(person));
            }
            Check.is("5: nobody sees it", room.seen(1), 0);
            Check.is("5: it makes no key picture", room.pass(1), 0);
        }
        Confroom all = full(1, 1);
        all.pass(1);
        for (int person = 0; person < 6; person++) {
            all.end(person);
        }
        for (int person = 0; person < 6; person++) {
            Check.is("5: nothing is seen", all.seen(person), 0);
            Check.is("5: nothing is sent", all.sent(person), 0);
        }
    }

    private static void promise06MuteTheFirstAndTheLastOne() {
        for (int person = 0; person < 6; person += 5) {
            Confroom room = room(6);
            room.setTimes(1, 3);
            room.setLevel(person, 100);
            for (int often = 0; often < 4; often++) {
                Check.is("6: muted", room.mute(person), true);
                Check.is("6: not muted", room.mute(person), false);
            }
            Check.is("6: muted once more", room.mute(person), true);
            room.pass(20);
            Check.is("6: with the greatest level not the loudest one", room.speaker(), -1);
            room.mute(person);
            Check.is("6: not at once", room.speaker(), -1);
            room.pass(1);
            Check.is("6: the loudest one again", room.speaker(), person);
        }
    }

    // "level: 0 to 100", "Returns the level before."
    private static void promise07LevelsFrom0To100() {
        Confroom room = room(6);
        for (int person = 0; person < 6; person += 5) {
            int before = 0;
            for (int level = 100; level >= 0; level--) {
                Check.is("7: the level before", room.setLevel(person, level), before);
                before = level;
            }
            Check.is("7: the same again", room.setLevel(person, 0), 0);
        }
    }

    // "which it has until it is set again"
    private static void promise07UntilItIsSetAgain() {
        Confroom room = room(6);
        room.setLevel(0, 100);
        room.setLevel(5, 1);
        room.mute(0);
        room.mute(0);
        room.publish(0, 1, 1);
        room.end(0);
        room.leave(4);
        for (int often = 0; often < 400; often++) {
            room.pass(20);
        }
        Check.is("7: it speaks all the time", room.speaker(), 0);
        Check.is("7: 100 until now", room.setLevel(0, 2), 100);
        Check.is("7: 1 until now", room.setLevel(5, 3), 1);
    }

    private static void promise08From0To6() {
        Confroom room = new Confroom();
        for (int people = 0; people < 6; people++) {
            Check.is("8: people()", room.people(), people);
            room.join();
        }
        Check.is("8: the greatest", room.people(), 6);
        Check.fails("8: the 7th", IllegalStateException.class, room::join);
        Check.is("8: not the 7th", room.people(), 6);
        for (int people = 5; people >= 0; people--) {
            room.leave(people);
            Check.is("8: people()", room.people(), people);
        }
    }

    // "other: another person, or NONE for nobody"
    private static void promise09PinTheFirstTheLastAndNone() {
        Confroom room = full(1, 1);
        for (int receiver = 0; receiver < 6; receiver++) {
            int before = -1;
            for (int other = 0; other < 6; other++) {
                if (other != receiver) {
                    Check.is("9: before", room.pin(receiver, other), before);
                    Check.is("9: first", room.seenAt(receiver, 0), other);
                    Check.is("9: all are seen", room.seen(receiver), 5);
                    before = other;
                }
            }
            Check.is("9: the same again", room.pin(receiver, before), before);
            Check.is("9: nobody", room.pin(receiver, Confroom.NONE), before);
            Check.is("9: nobody before", room.pin(receiver, Confroom.NONE), -1);
        }
    }

    // "places: 0 to 5", "Returns the places before."
    private static void promise10PlacesFrom0To5() {
        Confroom room = full(1, 1);
        for (int receiver = 0; receiver < 6; receiver += 5) {
            int before = 5;
            for (int places = 0; places <= 5; places++) {
                Check.is("10: before", room.setPlaces(receiver, places), before);
                Check.is("10: seen", room.seen(receiver), places);
                before = places;
            }
            room.setPlaces(receiver, 0);
            room.pass(1);
            Check.is("10: with 0 places nothing is sent", room.sent(receiver), 0);
        }
    }

    // "estimate: 0 to 2000", "Returns the estimate before."
    private static void promise11EstimatesFrom0To2000() {
        Confroom room = full(1, 1);
        for (int receiver = 0; receiver < 6; receiver += 5) {
            int before = 2000;
            for (int estimate : new int[] {0, 1, 1999, 2000, 0}) {
                Check.is("11: before", room.setEstimate(receiver, estimate), before);
                before = estimate;
            }
            Check.is("11: nothing fits into 0", room.target(receiver, 3), 0);
            room.pass(1);
            Check.is("11: nothing is sent", room.sent(receiver), 0);
            room.setEstimate(receiver, 1);
            int first = room.seenAt(receiver, 0);
            int second = room.seenAt(receiver, 1);
            Check.is("11: 1 is enough for the base 1", room.target(receiver, first), 1);
            Check.is("11: but of one stream alone", room.target(receiver, second), 0);
        }
    }

    // "hold: 1 to 10"
    private static void promise12HoldFrom1To10() {
        for (int hold = 1; hold <= 10; hold++) {
            Confroom room = room(6);
            room.setTimes(hold, 0);
            room.setLevel(5, 30);
            if (hold > 1) {
                room.pass(hold - 1);
            }
            Check.is("12: just before", room.speaker(), -1);
            room.pass(1);
            Check.is("12: after the holding time " + hold, room.speaker(), 5);
        }
    }

    // "limit: 0 to 10"
    private static void promise12LimitFrom0To10() {
        for (int limit = 0; limit <= 10; limit++) {
            Confroom room = room(2);
            room.setTimes(1, limit);
            room.publish(0, 10, 10);
            room.setEstimate(1, 10);
            Check.is("12: the first key picture waits for nothing", room.pass(1), 1);
            room.setEstimate(1, 20);
            if (limit > 0) {
                Check.is("12: just before", room.pass(limit), 0);
            }
            Check.is("12: after the limit " + limit, room.pass(1), 1);
        }
    }

    // "seconds: 1 to 20"; "how many key pictures are made in them"
    private static void promise13SecondsFrom1To20() {
        for (int seconds = 1; seconds <= 20; seconds++) {
            Confroom atOnce = waiting();
            Confroom oneByOne = waiting();
            int sum = 0;
            for (int second = 0; second < seconds; second++) {
                sum += oneByOne.pass(1);
            }
            Check.is("13: pass(" + seconds + ")", atOnce.pass(seconds), sum);
            Check.is("13: now()", atOnce.now(), oneByOne.now());
            Check.is("13: speaker()", atOnce.speaker(), oneByOne.speaker());
            for (int person = 0; person < 6; person++) {
                Check.is("13: sent", atOnce.sent(person), oneByOne.sent(person));
                Check.is("13: keys", atOnce.keys(person), oneByOne.keys(person));
            }
        }
        Check.is("13: key pictures of all six", full(1, 1).pass(20), 6);
        Check.is("13: in one second", full(1, 1).pass(1), 6);
    }

    /** A speaker comes in 10 seconds; 5 streams wait for a key picture. */
    private static Confroom waiting() {
        Confroom room = full(20, 10);
        room.setTimes(10, 10);
        room.setEstimate(0, 100);
        room.pass(1);
        room.setEstimate(0, 145);
        room.setPlaces(1, 1);
        room.setLevel(5, 30);
        return room;
    }

    private static void promise14NoSecondByOtherCalls() {
        Confroom room = full(1, 1);
        Check.is("14: the people come in the second 0", room.now(), 0);
        room.pass(20);
        room.pin(0, 1);
        room.mute(0);
        room.setLevel(0, 100);
        room.setTimes(10, 10);
        room.end(0);
        room.leave(0);
        Check.fails("14: pass(0)", IllegalArgumentException.class, () -> room.pass(0));
        Check.fails("14: pass(21)", IllegalArgumentException.class, () -> room.pass(21));
        Check.is("14: now()", room.now(), 20);
    }

    private static void promise15NoneAndEachOne() {
        Confroom room = room(6);
        room.setTimes(1, 0);
        room.pass(20);
        Check.is("15: NONE", room.speaker(), Confroom.NONE);
        for (int person = 5; person >= 0; person--) {
            room.setLevel(person, 50);
            Check.is("15: not between seconds", room.speaker(), person == 5 ? -1 : person + 1);
            room.pass(1);
            Check.is("15: speaker()", room.speaker(), person);
        }
    }

    private static void promise16SeenFrom0To5() {
        Confroom room = room(6);
        room.setPlaces(0, 5);
        for (int person = 0; person < 6; person++) {
            room.publish(person, 100, 100);
            Check.is("16: seen(0), 5 places", room.seen(0), person);
            Check.is("16: seen(5), 3 places", room.seen(5), Math.min(3, Math.min(person + 1, 5)));
        }
    }

    // "place: from 0"; "if it sees no stream in this place"
    private static void promise17TheFirstAndTheLastPlace() {
        for (int places = 0; places <= 5; places++) {
            Confroom room = full(1, 1);
            room.setPlaces(5, places);
            for (int place = 0; place < places; place++) {
                Check.is("17: seenAt", room.seenAt(5, place), place);
            }
            for (int beyond : new int[] {-1, places, places + 1, 5, 6}) {
                Check.fails("17: " + places + " places, place " + beyond,
                        IndexOutOfBoundsException.class, () -> room.seenAt(5, beyond));
            }
        }
        Confroom few = room(2);
        few.publish(1, 1, 1);
        Check.is("17: fewer streams than places", few.seenAt(0, 0), 1);
        Check.fails("17: the next place", IndexOutOfBoundsException.class, () -> few.seenAt(0, 1));
        Check.fails("17: the last place", IndexOutOfBoundsException.class, () -> few.seenAt(0, 2));
        few.end(1);
        Check.fails("17: no stream", IndexOutOfBoundsException.class, () -> few.seenAt(0, 0));
    }

    /** The bases 10 and 20 and the steps 3 and 2, for the estimates where a target changes. */
    private static void promise18And19EveryEstimate() {
        Confroom room = room(3);
        room.publish(1, 10, 3);
        room.publish(2, 20, 2);
        int[][] due = {
            {0, 0, 0}, {9, 0, 0}, {10, 1, 0}, {12, 1, 0}, {13, 2, 0}, {15, 2, 0}, {16, 3, 0},
            {29, 3, 0}, {30, 1, 1}, {31, 1, 1}, {32, 1, 2}, {33, 2, 1}, {34, 2, 1}, {35, 2, 2},
            {36, 3, 1}, {37, 3, 1}, {38, 3, 2}, {39, 3, 2}, {40, 3, 3}, {41, 3, 3}, {2000, 3, 3},
        };
        for (int[] row : due) {
            room.setEstimate(0, row[0]);
            for (int other = 1; other <= 2; other++) {
                String what = "(0, " + other + ") with the estimate " + row[0];
                Check.is("18: target" + what, room.target(0, other), row[other]);
                Check.is("19: targetBySteps" + what, room.targetBySteps(0, other), row[other]);
            }
        }
        for (int person = 0; person < 3; person++) {
            Check.is("18: of itself", room.target(person, person), 0);
            Check.is("19: of itself", room.targetBySteps(person, person), 0);
        }
    }

    // "0 for a receiver and itself"
    private static void promise20ALayerOfItself() {
        Confroom room = full(1, 1);
        room.pass(1);
        for (int receiver = 0; receiver < 6; receiver++) {
            for (int other = 0; other < 6; other++) {
                Check.is("20: layer(" + receiver + ", " + other + ")",
                        room.layer(receiver, other), receiver == other ? 0 : 3);
            }
        }
    }

    private static void promise21SentFrom0To1500() {
        Confroom room = full(100, 100);
        Check.is("21: nothing yet", room.sent(0), 0);
        room.pass(1);
        for (int receiver = 0; receiver < 6; receiver++) {
            Check.is("21: the greatest sum", room.sent(receiver), 1500);
        }
        Confroom least = full(1, 1);
        for (int receiver = 0; receiver < 6; receiver++) {
            least.setPlaces(receiver, 1);
            least.setEstimate(receiver, 1);
        }
        least.pass(1);
        Check.is("21: the least sum but 0", least.sent(0), 1);
        Check.is("21: all layers of all", exact(1500), 1500);
        Check.is("21: 1 too little for the last layer", exact(1499), 1400);
        Check.is("21: all first layers", exact(500), 500);
        Check.is("21: 1 too little for the last first layer", exact(499), 400);
    }

    private static int exact(int estimate) {
        Confroom room = full(100, 100);
        room.setEstimate(0, estimate);
        room.pass(1);
        return room.sent(0);
    }

    private static void promise22KeysFrom0() {
        Confroom room = room(2);
        room.setTimes(1, 0);
        room.publish(0, 1, 1);
        for (int keys = 0; keys < 100; keys++) {
            Check.is("22: keys(0)", room.keys(0), keys);
            room.setEstimate(1, 1);
            Check.is("22: one for the layer 1 from 0", room.pass(1), 1);
            room.setEstimate(1, 0);
            Check.is("22: none for the layer 0", room.pass(1), 0);
        }
        room.end(0);
        Check.fails("22: none of an ended stream", IllegalStateException.class,
                () -> room.keys(0));
        room.publish(0, 1, 1);
        Check.is("22: none of the next one", room.keys(0), 0);
    }

    // "whether a key picture is asked of a stream that it could not make yet"
    private static void promise23AskedForTheLimit() {
        for (int limit = 0; limit <= 10; limit++) {
            Confroom room = room(2);
            room.setTimes(1, limit);
            room.publish(0, 10, 10);
            room.setEstimate(1, 10);
            Check.is("23: before the first second", room.isAsked(0), false);
            room.pass(1);
            Check.is("23: the first one could be made", room.isAsked(0), false);
            room.setEstimate(1, 20);
            Check.is("23: not between two seconds", room.isAsked(0), false);
            for (int second = 0; second < limit; second++) {
                room.pass(1);
                Check.is("23: it could not make it yet", room.isAsked(0), true);
            }
            room.pass(1);
            Check.is("23: it could make it", room.isAsked(0), false);
        }
    }
}
