/** The sentences of "Terms", and of "What it is", that name a bound, an order or a moment. */
public final class TermsTest {
    public static void main(String[] args) {
        whatItIsFor512Calls();
        peopleAtFirst();
        speakersFromTheLevel30();
        speakersOfSeveralTheLowest();
        speakersHoldOneAfterTheOther();
        speakersHoldIsNotBrokenBetweenSeconds();
        speakersHoldIsSetLater();
        speakersStayUntilAnotherOne();
        speakersWhoLeaves();
        speakersWhoLeavesIsNotTheOneBefore();
        placesInTheirOrder();
        placesOfStreamsAlone();
        placesAsManyAtMost();
        targetsAtMostTheRest();
        targetsInTwoRounds();
        targetsBySteps();
        secondsLimit3Seconds5And9();
        secondsEveryLimit();
        secondsLimitIsSetLater();
        secondsSpeakerBeforeTargets();
        secondsLoweredWithoutAKeyPicture();
        secondsAskedIfATargetIsAbove();
        secondsAllGoUpAtOnce();
        secondsAskedUntilItIsMade();
        betweenSecondsNothingIsLowered();
        betweenSecondsLoweredByEndAndLeave();
        Check.end();
    }

    private static Confroom room(int people) {
        Confroom room = new Confroom();
        for (int person = 0; person < people; person++) {
            room.join();
        }
        return room;
    }

    /** Each of the people publishes a stream with the rates 10, 20 and 30. */
    private static Confroom publishing(int people) {
        Confroom room = room(people);
        for (int person = 0; person < people; person++) {
            room.publish(person, 10, 10);
        }
        return room;
    }

    private static void seenBy(String what, Confroom room, int receiver, int... due) {
        Check.is(what + ": seen(" + receiver + ")", room.seen(receiver), due.length);
        for (int place = 0; place < due.length; place++) {
            Check.is(what + ": seenAt(" + receiver + ", " + place + ")",
                    room.seenAt(receiver, place), due[place]);
        }
    }

    /** Another receiver is asked in between, so that no answer can be left from the other way. */
    private static void targetsOf(String what, Confroom room, int receiver, int... due) {
        int another = receiver == 0 ? 1 : 0;
        for (int other = 0; other < due.length; other++) {
            Check.is(what + ": target " + other, room.target(receiver, other), due[other]);
            Check.is(what + ": of another one itself", room.target(another, another), 0);
            Check.is(what + ": by steps " + other, room.targetBySteps(receiver, other), due[other]);
            Check.is(what + ": of it, by steps", room.targetBySteps(another, another), 0);
        }
    }

    private static void speaks(Confroom room, int person) {
        room.setLevel(person, 100);
        room.pass(1);
        room.setLevel(person, 0);
        Check.is("speaker()", room.speaker(), person);
    }

    // "An object is used for at most 512 calls after it has been made"
    private static void whatItIsFor512Calls() {
        Confroom empty = new Confroom();
        for (int call = 1; call <= 511; call++) {
            Check.is("pass(20)", empty.pass(20), 0);
        }
        Check.is("now(), the 512th call", empty.now(), 10220);

        Confroom busy = publishing(6);
        for (int call = 13; call <= 508; call++) {
            busy.pass(20);
        }
        busy.setEstimate(5, 10);
        busy.pass(1);
        Check.is("setEstimate, the 511th call", busy.setEstimate(5, 100), 10);
        Check.is("pass(20), the 512th call", busy.pass(20), 3);

        Confroom people = new Confroom();
        for (int call = 1; call <= 510; call += 2) {
            Check.is("join()", people.join(), 0);
            people.leave(0);
        }
        Check.is("join(), the 511th call", people.join(), 0);
        Check.is("people(), the 512th call", people.people(), 1);

        Confroom streams = room(2);
        for (int call = 3; call <= 511; call++) {
            streams.publish(call % 2, 1, 1);
        }
        Check.is("seenAt, the 512th call", streams.seenAt(0, 0), 1);

        Confroom keys = room(2);
        keys.publish(0, 1, 1);
        for (int call = 4; call <= 511; call += 4) {
            keys.setEstimate(1, 1);
            Check.is("pass(20) with a key picture", keys.pass(20), 1);
            keys.setEstimate(1, 0);
            Check.is("pass(20) with none", keys.pass(20), 0);
        }
        Check.is("keys(0), the 512th call", keys.keys(0), 127);
    }

    // "0 at first"; "with 3 places, the estimate 100, and nobody pinned at first"
    private static void peopleAtFirst() {
        Confroom room = publishing(6);
        for (int person = 0; person < 6; person++) {
            Check.is("3 places at first", room.seen(person), 3);
            int first = person == 0 ? 1 : 0;
            Check.is("nobody is pinned, so the earliest", room.seenAt(person, 0), first);
            Check.is("3 + 3 + 3 layers fit into 100", room.target(person, first), 3);
            Check.is("places", room.setPlaces(person, 3), 3);
            Check.is("estimate", room.setEstimate(person, 100), 100);
            Check.is("pinned", room.pin(person, Confroom.NONE), Confroom.NONE);
            Check.is("level", room.setLevel(person, 0), 0);
            Check.is("not muted", room.mute(person), true);
        }
        Confroom estimate = room(3);
        estimate.publish(1, 34, 33);
        targetsOf("100 is just enough for all layers", estimate, 0, 0, 3, 0);
        estimate.publish(1, 35, 33);
        targetsOf("100 is 1 too little", estimate, 0, 0, 2, 0);
    }

    // "whose level is at least 30"
    private static void speakersFromTheLevel30() {
        for (int person = 0; person < 6; person++) {
            Confroom room = room(6);
            room.setTimes(1, 0);
            room.setLevel(person, 29);
            room.pass(20);
            Check.is("29", room.speaker(), -1);
            room.setLevel(person, 30);
            room.pass(1);
            Check.is("30", room.speaker(), person);
        }
    }

    // "the one with the greatest level; of several the one with the lowest number"
    private static void speakersOfSeveralTheLowest() {
        for (int level : new int[] {30, 31, 99, 100}) {
            for (int low = 0; low < 5; low++) {
                for (int high = low + 1; high < 6; high++) {
                    Confroom room = room(6);
                    room.setTimes(1, 0);
                    room.setLevel(high, level);
                    room.setLevel(low, level);
                    room.pass(1);
                    Check.is("the lowest number", room.speaker(), low);
                    room.setLevel(low, level - 1);
                    room.pass(1);
                    Check.is("1 less", room.speaker(), high);
                    room.setLevel(low, level);
                    room.mute(low);
                    room.pass(1);
                    Check.is("muted", room.speaker(), high);
                }
            }
        }
    }

    // "in as many seconds one after the other as the holding time (2 at first)"
    private static void speakersHoldOneAfterTheOther() {
        Confroom first = room(2);
        first.setLevel(1, 30);
        first.pass(1);
        Check.is("1 second is not 2", first.speaker(), -1);
        first.pass(1);
        Check.is("2 seconds at first", first.speaker(), 1);

        for (int hold = 2; hold <= 10; hold++) {
            for (int way = 0; way < 4; way++) {
                Confroom room = room(2);
                room.setTimes(hold, 0);
                room.setLevel(0, 50);
                room.pass(hold - 1);
                breakFor1Second(room, way);
                room.pass(hold - 1);
                Check.is("broken in the way " + way, room.speaker(), -1);
                room.pass(1);
                Check.is("and then held for " + hold, room.speaker(), 0);
            }
        }
    }

    private static void breakFor1Second(Confroom room, int way) {
        if (way == 0) {
            room.setLevel(1, 51);
            room.pass(1);
            room.setLevel(1, 50);
        } else if (way == 1) {
            room.setLevel(0, 29);
            room.pass(1);
            room.setLevel(0, 50);
        } else if (way == 2) {
            room.mute(0);
            room.pass(1);
            room.mute(0);
        } else {
            room.leave(0);
            room.join();
            room.setLevel(0, 50);
        }
    }

    private static void speakersHoldIsNotBrokenBetweenSeconds() {
        Confroom room = room(3);
        room.setTimes(3, 0);
        room.setLevel(1, 50);
        room.pass(1);
        room.mute(1);
        room.mute(1);
        room.setLevel(1, 0);
        room.setLevel(1, 30);
        room.pass(1);
        room.setLevel(0, 100);
        room.setLevel(0, 29);
        room.leave(2);
        room.join();
        room.setLevel(2, 30);
        Check.is("not before", room.speaker(), -1);
        room.pass(1);
        Check.is("the loudest one in 3 seconds one after the other", room.speaker(), 1);
    }

    private static void speakersHoldIsSetLater() {
        Confroom less = room(1);
        less.setTimes(10, 0);
        less.setLevel(0, 30);
        less.pass(9);
        less.setTimes(1, 0);
        Check.is("nobody becomes it between seconds", less.speaker(), -1);
        less.pass(1);
        Check.is("the last second is enough", less.speaker(), 0);

        Confroom more = room(1);
        more.setTimes(3, 0);
        more.setLevel(0, 30);
        more.pass(2);
        more.setTimes(10, 0);
        more.pass(7);
        Check.is("9 of 10 seconds", more.speaker(), -1);
        more.pass(1);
        Check.is("10 of 10 seconds", more.speaker(), 0);
        more.setTimes(10, 0);
        Check.is("a setting takes nothing back", more.speaker(), 0);
    }

    // "it becomes the speaker": and is it until another one does, or until it leaves
    private static void speakersStayUntilAnotherOne() {
        for (int way = 0; way < 4; way++) {
            Confroom room = publishing(3);
            room.setTimes(2, 0);
            room.setLevel(2, 100);
            room.pass(2);
            if (way == 0) {
                room.mute(2);
            } else if (way == 1) {
                room.setLevel(2, 0);
            } else if (way == 2) {
                room.end(2);
            } else {
                room.setTimes(10, 10);
                room.setLevel(2, 29);
            }
            Check.is("at once, way " + way, room.speaker(), 2);
            room.pass(20);
            Check.is("20 seconds later, way " + way, room.speaker(), 2);
            room.setLevel(2, 0);
            room.setTimes(2, 0);
            room.setLevel(1, 30);
            room.pass(1);
            Check.is("another one not long enough, way " + way, room.speaker(), 2);
            room.pass(1);
            Check.is("another one, way " + way, room.speaker(), 1);
        }
    }

    // "who leaves is not the speaker any more"
    private static void speakersWhoLeavesIsNotTheOneBefore() {
        Confroom room = publishing(4);
        room.setTimes(1, 0);
        speaks(room, 3);
        speaks(room, 2);
        speaks(room, 1);
        seenBy("all three spoke", room, 0, 1, 2, 3);
        room.leave(1);
        Check.is("nobody speaks", room.speaker(), -1);
        room.pass(1);
        Check.is("nor with the next second", room.speaker(), -1);
        seenBy("the others spoke still", room, 0, 2, 3);
    }

    // "who leaves is not the speaker any more"
    private static void speakersWhoLeaves() {
        for (int speaker = 0; speaker < 6; speaker++) {
            Confroom room = publishing(6);
            room.setTimes(1, 0);
            speaks(room, (speaker + 1) % 6);
            speaks(room, speaker);
            room.leave((speaker + 2) % 6);
            Check.is("another one left", room.speaker(), speaker);
            room.leave((speaker + 1) % 6);
            Check.is("one who spoke before left", room.speaker(), speaker);
            room.leave(speaker);
            Check.is("the speaker left", room.speaker(), -1);
            room.pass(20);
            Check.is("nobody is loud", room.speaker(), -1);
            room.join();
            room.join();
            room.join();
            Check.is("the next one with its number", room.speaker(), -1);
        }
        Confroom loud = room(2);
        loud.setTimes(1, 0);
        loud.setLevel(0, 40);
        loud.setLevel(1, 30);
        loud.pass(1);
        loud.leave(0);
        Check.is("not the next loud one at once", loud.speaker(), -1);
        loud.pass(1);
        Check.is("but with the next second", loud.speaker(), 1);
    }

    // "in this order: .. the pinned person, .. those who spoke, .. those of the others"
    private static void placesInTheirOrder() {
        Confroom room = room(6);
        room.setTimes(1, 0);
        room.setPlaces(0, 5);
        for (int person = 5; person >= 0; person--) {
            room.publish(person, 1, 1);
        }
        seenBy("as published", room, 0, 5, 4, 3, 2, 1);
        speaks(room, 2);
        seenBy("who spoke", room, 0, 2, 5, 4, 3, 1);
        speaks(room, 1);
        seenBy("the latest first", room, 0, 1, 2, 5, 4, 3);
        room.pin(0, 4);
        seenBy("the pinned one", room, 0, 4, 1, 2, 5, 3);
        room.pin(0, 2);
        seenBy("the pinned one spoke", room, 0, 2, 1, 5, 4, 3);
        speaks(room, 2);
        seenBy("the pinned one is the latest, too", room, 0, 2, 1, 5, 4, 3);
        room.pin(0, Confroom.NONE);
        speaks(room, 0);
        seenBy("its own stream takes no place", room, 0, 2, 1, 5, 4, 3);
        room.publish(5, 1, 1);
        seenBy("published anew", room, 0, 2, 1, 4, 3, 5);
        room.publish(1, 1, 1);
        seenBy("published anew by one who spoke", room, 0, 2, 1, 4, 3, 5);
        speaks(room, 3);
        speaks(room, 4);
        speaks(room, 5);
        seenBy("all spoke", room, 0, 5, 4, 3, 2, 1);
        speaks(room, 1);
        seenBy("the last one is the first", room, 0, 1, 5, 4, 3, 2);
        speaks(room, 4);
        seenBy("one from the middle", room, 0, 4, 1, 5, 3, 2);
    }

    // "A stream that is not published is not seen, and takes no place."
    private static void placesOfStreamsAlone() {
        Confroom room = room(5);
        room.setTimes(1, 0);
        speaks(room, 3);
        speaks(room, 4);
        room.pin(0, 2);
        seenBy("no stream", room, 0);
        room.setPlaces(0, 2);
        room.publish(1, 1, 1);
        seenBy("the only stream", room, 0, 1);
        room.publish(3, 1, 1);
        seenBy("of one who spoke", room, 0, 3, 1);
        room.publish(4, 1, 1);
        seenBy("of the latest one", room, 0, 4, 3);
        room.publish(2, 1, 1);
        seenBy("of the pinned one", room, 0, 2, 4);
        room.end(4);
        seenBy("without the latest one", room, 0, 2, 3);
        room.end(2);
        seenBy("without the pinned one", room, 0, 3, 1);
        room.leave(3);
        seenBy("without one who left", room, 0, 1);
        room.end(1);
        seenBy("no stream again", room, 0);
    }

    // "as many as its places at most"
    private static void placesAsManyAtMost() {
        int[] order = {4, 2, 0, 1, 3};
        for (int places = 0; places <= 5; places++) {
            Confroom room = publishing(6);
            room.setTimes(1, 0);
            speaks(room, 2);
            room.pin(5, 4);
            room.setPlaces(5, places);
            int[] due = new int[places];
            System.arraycopy(order, 0, due, 0, places);
            seenBy(places + " places", room, 5, due);
            room.setEstimate(5, 2000);
            for (int i = 0; i < 5; i++) {
                int layers = i < places ? 3 : 0;
                Check.is("a stream that is not seen has the target 0",
                        room.target(5, order[i]), layers);
                Check.is("by steps, too", room.targetBySteps(5, order[i]), layers);
            }
        }
    }

    // "if its base rate is at most the rest", "and its step rate is at most the rest"
    private static void targetsAtMostTheRest() {
        int[] edges = {1, 2, 50, 99, 100};
        for (int base : edges) {
            for (int step : edges) {
                Confroom room = room(2);
                room.publish(1, base, step);
                for (int layer = 1; layer <= 3; layer++) {
                    room.setEstimate(0, base + (layer - 1) * step - 1);
                    targetsOf("1 too little", room, 0, 0, layer - 1);
                    room.setEstimate(0, base + (layer - 1) * step);
                    targetsOf("just enough", room, 0, 0, layer);
                }
                room.setEstimate(0, 2000);
                targetsOf("there is no layer 4", room, 0, 0, 3);
                room.setEstimate(0, 0);
                targetsOf("nothing", room, 0, 0, 0);
            }
        }
    }

    // "First they are gone through .. Then they are gone through in this order again"
    private static void targetsInTwoRounds() {
        Confroom room = room(4);
        room.publish(1, 40, 1);
        room.publish(2, 40, 30);
        room.publish(3, 20, 1);
        targetsOf("all first layers before a next one", room, 0, 0, 1, 1, 1);
        room.setEstimate(0, 101);
        targetsOf("the rest 1 is for the first place", room, 0, 0, 2, 1, 1);
        room.setEstimate(0, 103);
        targetsOf("a step too large is passed over", room, 0, 0, 3, 1, 2);
        room.setEstimate(0, 132);
        targetsOf("the step of the second place is just enough", room, 0, 0, 3, 2, 1);
        room.setEstimate(0, 79);
        targetsOf("a base too large is passed over", room, 0, 0, 3, 0, 3);
        room.setEstimate(0, 60);
        targetsOf("what is left is 0", room, 0, 0, 1, 0, 1);
        room.setEstimate(0, 39);
        targetsOf("no place but the last one", room, 0, 0, 0, 0, 3);
        room.setEstimate(0, 19);
        targetsOf("too little for any base", room, 0, 0, 0, 0, 0);
        room.setEstimate(0, 164);
        targetsOf("all layers", room, 0, 0, 3, 3, 3);
        room.setEstimate(0, 163);
        targetsOf("all but a step of the last place", room, 0, 0, 3, 3, 2);
        room.setEstimate(0, 161);
        targetsOf("all but a step of the second place", room, 0, 0, 3, 2, 3);
    }

    // "each time the first stream in the order of the places that has the layer 0 .."
    private static void targetsBySteps() {
        int[][] rates = {{1, 100}, {100, 1}, {50, 50}, {33, 17}, {7, 90}, {90, 7}};
        for (int first = 0; first < 6; first++) {
            Confroom room = room(6);
            for (int person = 0; person < 6; person++) {
                int[] rate = rates[(first + person) % 6];
                room.publish(person, rate[0], rate[1]);
            }
            room.setPlaces(0, 5);
            for (int estimate = 0; estimate <= 40; estimate++) {
                room.setEstimate(0, estimate * 20 + first);
                for (int other = 0; other < 6; other++) {
                    Check.is("by steps as in two rounds", room.targetBySteps(0, other),
                            room.target(0, other));
                }
            }
        }
    }

    /** A stream of 0 that is sent to 1; at the second it made its first key picture. */
    private static Confroom keyInSecond(int second, int limit) {
        Confroom room = room(2);
        room.setTimes(2, limit);
        if (second > 1) {
            room.pass(second - 1);
        }
        room.publish(0, 10, 10);
        room.setEstimate(1, 10);
        Check.is("a key picture", room.pass(1), 1);
        Check.is("in the second", room.now(), second);
        room.setEstimate(1, 20);
        return room;
    }

    // "with the limit 3 a stream that made a key picture in the second 5 makes the next one in the
    // second 9 at the earliest"
    private static void secondsLimit3Seconds5And9() {
        Confroom room = room(2);
        room.pass(4);
        room.publish(0, 10, 10);
        room.setEstimate(1, 10);
        Check.is("the second 5", room.pass(1), 1);
        room.setEstimate(1, 20);
        for (int second = 6; second <= 8; second++) {
            Check.is("the second " + second, room.pass(1), 0);
            Check.is("now()", room.now(), second);
            Check.is("asked", room.isAsked(0), true);
            Check.is("the layer waits", room.layer(1, 0), 1);
        }
        Check.is("the second 9", room.pass(1), 1);
        Check.is("now()", room.now(), 9);
        Check.is("asked no more", room.isAsked(0), false);
        Check.is("the layer", room.layer(1, 0), 2);

        Confroom atOnce = keyInSecond(5, 3);
        Check.is("the seconds 6 to 8 at once", atOnce.pass(3), 0);
        Check.is("the second 9 and more at once", atOnce.pass(20), 1);
        Confroom later = keyInSecond(5, 3);
        later.setEstimate(1, 10);
        later.pass(3);
        later.setEstimate(1, 30);
        Check.is("asked only in the second 9", later.pass(1), 1);
        Confroom twice = keyInSecond(5, 3);
        Check.is("the second 9", twice.pass(4), 1);
        twice.setEstimate(1, 30);
        Check.is("the seconds 10 to 12", twice.pass(3), 0);
        Check.is("the second 13", twice.pass(1), 1);
    }

    // "if it made none in the seconds before, as many as the limit (3 at first)"
    private static void secondsEveryLimit() {
        for (int limit = 0; limit <= 10; limit++) {
            for (int second = 1; second <= 12; second++) {
                Confroom room = keyInSecond(second, limit);
                for (int before = 0; before < limit; before++) {
                    Check.is("the limit " + limit, room.pass(1), 0);
                }
                Check.is("past the limit " + limit, room.pass(1), 1);
                Check.is("keys(0)", room.keys(0), 2);
            }
        }
        Confroom first = publishing(2);
        Check.is("the first second has no seconds before", first.pass(1), 2);
    }

    private static void secondsLimitIsSetLater() {
        Confroom less = keyInSecond(5, 10);
        less.pass(2);
        less.setTimes(2, 2);
        Check.is("no key picture between seconds", less.keys(0), 1);
        Check.is("asked still", less.isAsked(0), true);
        Check.is("the second 8 with the limit 2", less.pass(1), 1);
        Confroom more = keyInSecond(5, 0);
        more.setTimes(2, 10);
        Check.is("the seconds 6 to 15 with the limit 10", more.pass(10), 0);
        Check.is("the second 16", more.pass(1), 1);
    }

    // "the loudest one is found, and perhaps the speaker; each layer .. above its target .."
    private static void secondsSpeakerBeforeTargets() {
        Confroom room = publishing(4);
        room.setPlaces(3, 1);
        room.setTimes(2, 0);
        room.pass(1);
        Check.is("the earliest stream", room.layer(3, 0), 3);
        room.setLevel(2, 30);
        Check.is("nothing changes in its first second", room.pass(1), 0);
        Check.is("the earliest stream still", room.layer(3, 0), 3);
        Check.is("the second in which it becomes the speaker", room.pass(1), 1);
        Check.is("the other one is lowered in it", room.layer(3, 0), 0);
        Check.is("and the speaker is sent in it", room.layer(3, 2), 3);
    }

    // "each layer that is sent and above its target becomes the target"
    private static void secondsLoweredWithoutAKeyPicture() {
        for (int layer = 0; layer <= 2; layer++) {
            Confroom room = publishing(3);
            room.pass(1);
            room.setEstimate(2, 60);
            Check.is("the layer 3 before", room.layer(2, 0) + room.layer(2, 1), 6);
            room.pin(2, 1);
            room.setEstimate(2, layer * 10);
            room.setPlaces(2, 1);
            Check.is("no key picture", room.pass(1), 0);
            Check.is("lowered to " + layer, room.layer(2, 1), layer);
            Check.is("the one that is not seen", room.layer(2, 0), 0);
            Check.is("not asked", room.isAsked(1), false);
            Check.is("another receiver", room.layer(0, 1), 3);
        }
    }

    // "a key picture is asked of each stream that has a receiver whose target is above the layer"
    private static void secondsAskedIfATargetIsAbove() {
        Confroom room = publishing(4);
        room.setPlaces(0, 0);
        room.setPlaces(1, 0);
        room.setPlaces(2, 0);
        room.setPlaces(3, 2);
        Check.is("of the streams that are seen alone", room.pass(1), 2);
        Check.is("seen", room.keys(0) + room.keys(1), 2);
        Check.is("not seen", room.keys(2) + room.keys(3), 0);
        Check.is("none is asked when all have their targets", room.pass(20), 0);
        room.setPlaces(2, 1);
        Check.is("of one for another receiver", room.pass(1), 1);
        Check.is("of the first one", room.keys(0), 2);
        room.setPlaces(1, 1);
        room.pass(1);
        Check.is("it waits for the limit", room.isAsked(0), true);
        Check.is("one asked by nobody does not", room.isAsked(1), false);
        room.pin(1, 2);
        Check.is("another one may at once", room.pass(1), 1);
        Check.is("the pinned one", room.keys(2), 1);
        Check.is("it could not make it yet", room.isAsked(0), true);
    }

    // "each layer that is sent of a stream that makes a key picture becomes its target"
    private static void secondsAllGoUpAtOnce() {
        Confroom room = publishing(6);
        for (int receiver = 1; receiver < 6; receiver++) {
            room.setPlaces(receiver, 1);
            room.setEstimate(receiver, 10);
            room.pin(receiver, 0);
        }
        room.setPlaces(0, 0);
        Check.is("one for all", room.pass(1), 1);
        room.setEstimate(1, 20);
        room.setEstimate(2, 30);
        room.setEstimate(3, 9);
        Check.is("not yet", room.pass(3), 0);
        room.setEstimate(4, 19);
        room.setEstimate(5, 29);
        Check.is("one for all again", room.pass(1), 1);
        int[] due = {0, 2, 3, 0, 1, 2};
        for (int receiver = 0; receiver < 6; receiver++) {
            Check.is("the layer of " + receiver, room.layer(receiver, 0), due[receiver]);
        }
        Check.is("from 0", room.pass(20), 0);
        room.setEstimate(3, 30);
        Check.is("to 3 at once", room.pass(1), 1);
        Check.is("layer(3, 0)", room.layer(3, 0), 3);
    }

    // "each stream of which one is asked makes a key picture .. and then is not asked any more"
    private static void secondsAskedUntilItIsMade() {
        Confroom room = keyInSecond(5, 3);
        room.pass(1);
        Check.is("asked in the second 6", room.isAsked(0), true);
        room.setEstimate(1, 10);
        Check.is("the seconds 7 and 8", room.pass(2), 0);
        Check.is("asked though nobody wants it any more", room.isAsked(0), true);
        Check.is("made in the second 9", room.pass(1), 1);
        Check.is("asked no more", room.isAsked(0), false);
        Check.is("the layer is the target", room.layer(1, 0), 1);
        Check.is("once", room.pass(20), 0);

        Confroom left = keyInSecond(5, 3);
        left.pass(1);
        left.leave(1);
        Check.is("asked though the receiver left", left.isAsked(0), true);
        Check.is("made in the second 9", left.pass(3), 1);
    }

    // "Between two seconds a layer that is sent is lowered only by .."
    private static void betweenSecondsNothingIsLowered() {
        Confroom room = publishing(5);
        for (int receiver = 0; receiver < 5; receiver++) {
            room.setPlaces(receiver, 4);
            room.setEstimate(receiver, 2000);
        }
        room.pass(1);
        for (int receiver = 0; receiver < 5; receiver++) {
            room.setPlaces(receiver, 0);
            room.setEstimate(receiver, 0);
            room.pin(receiver, (receiver + 1) % 5);
            room.setLevel(receiver, 100);
            room.mute(receiver);
        }
        room.setTimes(1, 0);
        room.join();
        room.publish(5, 1, 1);
        room.end(5);
        room.leave(5);
        for (int receiver = 0; receiver < 5; receiver++) {
            Check.is("all is sent as before", room.sent(receiver), 120);
        }
        room.pass(1);
        for (int receiver = 0; receiver < 5; receiver++) {
            Check.is("nothing is sent after a second", room.sent(receiver), 0);
        }
        Confroom higher = publishing(2);
        higher.setEstimate(0, 10);
        higher.pass(1);
        higher.setTimes(1, 0);
        higher.setEstimate(0, 30);
        Check.is("nor raised", higher.layer(0, 1), 1);
    }

    // ".. a stream that is not published any more, or by somebody who leaves"
    private static void betweenSecondsLoweredByEndAndLeave() {
        for (int way = 0; way < 3; way++) {
            Confroom room = publishing(4);
            room.pass(1);
            if (way == 0) {
                room.end(1);
            } else if (way == 1) {
                room.publish(1, 10, 10);
            } else {
                room.leave(1);
                room.join();
            }
            for (int receiver = 0; receiver < 4; receiver++) {
                Check.is("nothing of it, way " + way, room.layer(receiver, 1), 0);
                int due = receiver == 1 ? way == 2 ? 0 : 90 : 60;
                Check.is("all of the others, way " + way, room.sent(receiver), due);
            }
        }
    }
}
