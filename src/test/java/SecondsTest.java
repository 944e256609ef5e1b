/** Promises 13 to 15: pass, now, speaker. */
public final class SecondsTest {
    public static void main(String[] args) {
        promise13Pass();
        promise13PassWrong();
        promise13OrderInASecond();
        promise14Now();
        promise15SpeakerByLevel();
        promise15SpeakerByHold();
        promise15LatestSpeakers();
        Check.end();
    }

    private static Confroom room(int people) {
        Confroom room = new Confroom();
        for (int i = 0; i < people; i++) {
            room.join();
        }
        return room;
    }

    private static void promise13Pass() {
        Confroom room = room(3);
        Check.is("13: nothing is published", room.pass(5), 0);
        room.publish(0, 10, 10);
        room.publish(1, 10, 10);
        Check.is("13: one of each", room.pass(1), 2);
        Check.is("13: no more is asked", room.pass(20), 0);
        room.publish(2, 10, 10);
        Check.is("13: only of the new one", room.pass(1), 1);
        room.setEstimate(0, 20);
        room.pass(5);
        room.setEstimate(0, 60);
        Check.is("13: of both that go up", room.pass(20), 2);

        Confroom one = room(1);
        one.publish(0, 1, 1);
        Check.is("13: nobody else is there", one.pass(20), 0);
        one.join();
        Check.is("13: somebody came", one.pass(20), 1);

        Confroom twice = room(2);
        twice.publish(0, 10, 10);
        twice.setEstimate(1, 10);
        twice.pass(1);
        twice.setEstimate(1, 30);
        Check.is("13: waits for the limit", twice.pass(3), 0);
        Check.is("13: made within several seconds", twice.pass(20), 1);
        Check.is("13: layer(1, 0)", twice.layer(1, 0), 3);
    }

    private static void promise13PassWrong() {
        Confroom room = room(2);
        room.publish(0, 10, 10);
        for (int wrong : new int[] {0, -1, 21, Integer.MIN_VALUE, Integer.MAX_VALUE}) {
            Check.fails("13: pass(" + wrong + ")", IllegalArgumentException.class,
                    () -> room.pass(wrong));
        }
        Check.is("13: a wrong call lets no second pass", room.now(), 0);
        Check.is("13: and makes no key picture", room.keys(0), 0);
        Check.is("13: pass(20)", room.pass(20), 1);
        Check.is("13: now()", room.now(), 20);
    }

    /** The speaker of a second counts for the targets, the lowering and the asking of it. */
    private static void promise13OrderInASecond() {
        Confroom room = room(3);
        room.publish(0, 30, 10);
        room.publish(1, 30, 10);
        room.setPlaces(2, 1);
        room.setTimes(1, 0);
        room.pass(1);
        Check.is("13: the earliest stream", room.layer(2, 0), 3);
        Check.is("13: not the other one", room.layer(2, 1), 0);
        room.setLevel(1, 50);
        Check.is("13: a key picture of the speaker", room.pass(1), 1);
        Check.is("13: the speaker is sent in the same second", room.layer(2, 1), 3);
        Check.is("13: the other one is lowered in it", room.layer(2, 0), 0);

        Confroom waits = room(3);
        waits.publish(0, 10, 10);
        waits.pass(1);
        waits.setEstimate(1, 10);
        waits.setEstimate(2, 20);
        waits.pass(1);
        Check.is("13: lowered without a key picture", waits.keys(0), 1);
        Check.is("13: to 1", waits.layer(1, 0), 1);
        Check.is("13: to 2", waits.layer(2, 0), 2);
        waits.setEstimate(1, 30);
        waits.pass(1);
        waits.setEstimate(1, 10);
        Check.is("13: it stays asked though nobody wants it", waits.pass(1), 0);
        Check.is("13: isAsked(0)", waits.isAsked(0), true);
        waits.setEstimate(2, 30);
        Check.is("13: made as soon as the limit lets it", waits.pass(1), 1);
        Check.is("13: all that wait go up with it", waits.layer(2, 0), 3);
        Check.is("13: but not above the target", waits.layer(1, 0), 1);
    }

    private static void promise14Now() {
        Confroom room = new Confroom();
        Check.is("14: now()", room.now(), 0);
        room.pass(1);
        Check.is("14: after 1", room.now(), 1);
        room.pass(20);
        Check.is("14: after 21", room.now(), 21);
        room.join();
        room.publish(0, 1, 1);
        room.leave(0);
        room.setTimes(1, 1);
        Check.is("14: other calls take no time", room.now(), 21);
        for (int i = 0; i < 400; i++) {
            room.pass(20);
        }
        Check.is("14: after 8021", room.now(), 8021);
    }

    private static void promise15SpeakerByLevel() {
        Confroom room = room(4);
        room.setTimes(1, 3);
        room.setLevel(2, 29);
        room.pass(3);
        Check.is("15: 29 is not loud", room.speaker(), -1);
        room.setLevel(2, 30);
        Check.is("15: not before a second", room.speaker(), -1);
        room.pass(1);
        Check.is("15: 30 is", room.speaker(), 2);
        room.setLevel(3, 30);
        room.pass(1);
        Check.is("15: of several the lowest number", room.speaker(), 2);
        room.setLevel(1, 30);
        room.pass(1);
        Check.is("15: a lower number", room.speaker(), 1);
        room.setLevel(3, 31);
        room.pass(1);
        Check.is("15: the greatest level", room.speaker(), 3);
        room.setLevel(1, 0);
        room.setLevel(2, 0);
        room.setLevel(3, 0);
        room.pass(5);
        Check.is("15: stays while nobody is loud", room.speaker(), 3);
        room.mute(3);
        room.publish(3, 1, 1);
        room.end(3);
        room.pass(5);
        Check.is("15: stays muted and without a stream", room.speaker(), 3);
        room.setLevel(0, 100);
        room.pass(1);
        Check.is("15: one without a stream", room.speaker(), 0);
    }

    private static void promise15SpeakerByHold() {
        Confroom room = room(2);
        room.setTimes(3, 3);
        room.setLevel(0, 50);
        room.pass(2);
        room.setLevel(1, 60);
        room.pass(1);
        room.setLevel(1, 0);
        room.pass(2);
        Check.is("15: another one broke the row", room.speaker(), -1);
        room.mute(0);
        room.pass(1);
        room.mute(0);
        room.pass(2);
        Check.is("15: nobody broke the row", room.speaker(), -1);
        room.setLevel(0, 99);
        room.pass(1);
        Check.is("15: 3 one after the other", room.speaker(), 0);
        room.setLevel(1, 100);
        room.pass(2);
        Check.is("15: the speaker stays until then", room.speaker(), 0);
        room.pass(1);
        Check.is("15: the other one", room.speaker(), 1);

        Confroom loud = room(2);
        loud.setLevel(0, 50);
        loud.pass(20);
        loud.leave(0);
        loud.setLevel(1, 50);
        loud.pass(1);
        Check.is("15: the next one counts from 1", loud.speaker(), -1);
        loud.pass(1);
        Check.is("15: and holds", loud.speaker(), 1);
    }

    private static void promise15LatestSpeakers() {
        Confroom room = room(6);
        room.setTimes(1, 0);
        room.setPlaces(5, 5);
        for (int person = 0; person < 5; person++) {
            room.publish(person, 1, 1);
        }
        int[] speakers = {2, 4, 2, 0, 4};
        for (int i = 0; i < speakers.length; i++) {
            room.setLevel(speakers[i], 50);
            room.pass(1);
            Check.is("15: speaker()", room.speaker(), speakers[i]);
            room.setLevel(speakers[i], 0);
        }
        int[] due = {4, 0, 2, 1, 3};
        for (int place = 0; place < due.length; place++) {
            Check.is("15: the latest first, place " + place, room.seenAt(5, place), due[place]);
        }
        room.leave(4);
        Check.is("15: nobody takes the place of who left", room.speaker(), -1);
        Check.is("15: the others keep their order", room.seenAt(5, 0), 0);
        for (int i = 0; i < 20; i++) {
            int next = i % 2 + 1;
            room.setLevel(next, 50);
            room.pass(1);
            Check.is("15: often in turn", room.speaker(), next);
            Check.is("15: the latest is first", room.seenAt(5, 0), next);
            room.setLevel(next, 0);
        }
        room.end(2);
        Check.is("15: the latest again", room.seenAt(5, 0), 1);
        Check.is("15: one from before", room.seenAt(5, 1), 0);
        Check.is("15: one who never spoke", room.seenAt(5, 2), 3);
    }
}
