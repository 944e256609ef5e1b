import java.util.NoSuchElementException;

/** Promises 1 to 8: a new object, join, leave, publish, end, mute, setLevel, people. */
public final class PeopleTest {
    public static void main(String[] args) {
        promise01NewObject();
        promise02Join();
        promise03Leave();
        promise03LeaveIsForgotten();
        promise03LeaveAndTheSpeaker();
        promise03LeaveAndTheLayers();
        promise04Publish();
        promise04PublishInPlace();
        promise04PublishWrong();
        promise05End();
        promise06Mute();
        promise07SetLevel();
        promise08People();
        Check.end();
    }

    private static Confroom room(int people) {
        Confroom room = new Confroom();
        for (int i = 0; i < people; i++) {
            room.join();
        }
        return room;
    }

    private static void promise01NewObject() {
        Confroom room = new Confroom();
        Check.is("1: people()", room.people(), 0);
        Check.is("1: now()", room.now(), 0);
        Check.is("1: speaker()", room.speaker(), -1);
        Check.is("1: NONE", Confroom.NONE, -1);
        for (int person = -1; person <= 6; person++) {
            int number = person;
            Check.fails("1: seen", NoSuchElementException.class, () -> room.seen(number));
        }
        Check.is("1: pass(20) without people", room.pass(20), 0);
        room.join();
        Check.is("1: another object has its own people", new Confroom().people(), 0);
    }

    private static void promise02Join() {
        Confroom room = new Confroom();
        for (int person = 0; person < 6; person++) {
            Check.is("2: join()", room.join(), person);
        }
        Check.fails("2: join() of the 7th", IllegalStateException.class, room::join);
        Check.is("2: people()", room.people(), 6);
        room.leave(4);
        room.leave(2);
        Check.is("2: join() takes the least free number", room.join(), 2);
        Check.is("2: join() takes the next one", room.join(), 4);
        Check.fails("2: join() again", IllegalStateException.class, room::join);

        Confroom fresh = room(2);
        Check.is("2: places at first", fresh.setPlaces(1, 5), 3);
        Check.is("2: estimate at first", fresh.setEstimate(1, 5), 100);
        Check.is("2: pinned at first", fresh.pin(1, 0), -1);
        Check.is("2: level at first", fresh.setLevel(1, 5), 0);
        Check.is("2: not muted at first", fresh.mute(1), true);
        Check.fails("2: no stream at first", IllegalStateException.class, () -> fresh.keys(1));
    }

    private static void promise03Leave() {
        Confroom room = room(3);
        room.publish(1, 10, 10);
        room.pin(0, 1);
        room.pin(2, 1);
        room.leave(1);
        Check.is("3: people()", room.people(), 2);
        Check.is("3: its stream is not seen", room.seen(0), 0);
        Check.is("3: nobody has it pinned", room.pin(0, 2), -1);
        Check.is("3: nobody has it pinned, the other receiver", room.pin(2, 0), -1);
        Check.fails("3: leave(1) again", NoSuchElementException.class, () -> room.leave(1));
        Check.fails("3: publish by it", NoSuchElementException.class, () -> room.publish(1, 1, 1));
        Check.fails("3: end by it", NoSuchElementException.class, () -> room.end(1));
        Check.fails("3: mute(1)", NoSuchElementException.class, () -> room.mute(1));
        Check.fails("3: setLevel(1)", NoSuchElementException.class, () -> room.setLevel(1, 1));
        for (int wrong : new int[] {-1, 6, 5, Integer.MIN_VALUE, Integer.MAX_VALUE}) {
            Check.fails("3: leave(" + wrong + ")", NoSuchElementException.class,
                    () -> room.leave(wrong));
        }
        Check.is("3: people() after wrong calls", room.people(), 2);

        Confroom kept = room(3);
        kept.pin(0, 2);
        kept.leave(1);
        Check.is("3: another one stays pinned", kept.pin(0, -1), 2);
    }

    private static void promise03LeaveIsForgotten() {
        Confroom room = room(2);
        room.publish(1, 10, 10);
        room.mute(1);
        room.setLevel(1, 77);
        room.pin(1, 0);
        room.setPlaces(1, 1);
        room.setEstimate(1, 7);
        room.leave(1);
        Check.is("3: join()", room.join(), 1);
        Check.is("3: level is forgotten", room.setLevel(1, 0), 0);
        Check.is("3: muted is forgotten", room.mute(1), true);
        Check.is("3: pin is forgotten", room.pin(1, -1), -1);
        Check.is("3: places are forgotten", room.setPlaces(1, 3), 3);
        Check.is("3: estimate is forgotten", room.setEstimate(1, 100), 100);
        Check.fails("3: stream is forgotten", IllegalStateException.class, () -> room.keys(1));
    }

    private static void promise03LeaveAndTheSpeaker() {
        Confroom room = room(3);
        room.setTimes(1, 0);
        room.setLevel(0, 50);
        room.pass(1);
        room.setLevel(1, 60);
        room.pass(1);
        Check.is("3: speaker()", room.speaker(), 1);
        room.leave(1);
        Check.is("3: who leaves is not the speaker", room.speaker(), -1);
        room.leave(2);
        Check.is("3: who leaves as no speaker changes nothing", room.speaker(), -1);
        room.pass(1);
        Check.is("3: the one before becomes it in a second", room.speaker(), 0);
        room.join();
        room.leave(1);
        Check.is("3: the speaker stays when another one leaves", room.speaker(), 0);

        Confroom spoke = room(3);
        spoke.publish(1, 1, 1);
        spoke.publish(2, 1, 1);
        spoke.setLevel(2, 40);
        spoke.pass(2);
        Check.is("3: who spoke is first", spoke.seenAt(0, 0), 2);
        spoke.leave(2);
        spoke.join();
        spoke.publish(2, 1, 1);
        Check.is("3: that it spoke is forgotten", spoke.seenAt(0, 0), 1);

        Confroom seconds = room(2);
        seconds.setLevel(1, 40);
        seconds.pass(1);
        seconds.leave(1);
        seconds.join();
        seconds.setLevel(1, 40);
        seconds.pass(1);
        Check.is("3: its loud seconds are forgotten", seconds.speaker(), -1);
        seconds.pass(1);
        Check.is("3: two seconds of its own", seconds.speaker(), 1);

        Confroom run = room(3);
        run.setLevel(1, 40);
        run.pass(1);
        run.leave(0);
        run.pass(1);
        Check.is("3: another one's seconds go on", run.speaker(), 1);
    }

    private static void promise03LeaveAndTheLayers() {
        Confroom room = room(3);
        room.publish(0, 10, 10);
        room.publish(1, 20, 10);
        room.pass(1);
        Check.is("3: layer(2, 0)", room.layer(2, 0), 3);
        Check.is("3: sent(2)", room.sent(2), 70);
        room.leave(0);
        Check.is("3: sent(2) without it", room.sent(2), 40);
        room.join();
        Check.is("3: nothing of it is sent", room.layer(2, 0), 0);
        Check.is("3: the new one is sent nothing", room.sent(0), 0);
        Check.is("3: the new one's layer", room.layer(0, 1), 0);
        room.pass(2);
        Check.is("3: the layer waits for a key picture", room.layer(0, 1), 0);
        Check.is("3: which is asked", room.isAsked(1), true);
        room.leave(0);
        Check.is("3: it stays asked when the receiver leaves", room.isAsked(1), true);
        Check.is("3: and is made", room.pass(2), 1);
        Check.is("3: keys(1)", room.keys(1), 2);

        Confroom receiver = room(2);
        receiver.publish(0, 10, 10);
        receiver.pass(1);
        receiver.leave(1);
        receiver.publish(0, 10, 10);
        Check.is("3: who left asks for nothing", receiver.pass(5), 0);
        Check.is("3: and nothing is asked", receiver.isAsked(0), false);
        receiver.join();
        receiver.pass(1);
        receiver.leave(1);
        receiver.join();
        Check.is("3: what was sent to it is forgotten", receiver.layer(1, 0), 0);
        Check.is("3: all of it", receiver.sent(1), 0);
    }

    private static void promise04Publish() {
        Confroom room = room(3);
        room.publish(1, 1, 100);
        room.publish(0, 100, 1);
        Check.is("4: seen(2)", room.seen(2), 2);
        Check.is("4: the earliest first", room.seenAt(2, 0), 1);
        Check.is("4: then the later one", room.seenAt(2, 1), 0);
        Check.is("4: keys at first", room.keys(0), 0);
        Check.is("4: nothing asked at first", room.isAsked(0), false);
        Check.is("4: nothing sent at first", room.sent(2), 0);
        room.setEstimate(2, 302);
        room.pass(1);
        Check.is("4: the rates", room.sent(2), 1 + 200 + 101);
        room.setEstimate(2, 303);
        room.pass(4);
        Check.is("4: one more step", room.sent(2), 1 + 200 + 102);
    }

    private static void promise04PublishInPlace() {
        Confroom room = room(3);
        room.publish(0, 10, 10);
        room.publish(1, 10, 10);
        room.pass(1);
        Check.is("4: keys(0)", room.keys(0), 1);
        room.setEstimate(2, 10);
        room.pass(1);
        room.setEstimate(2, 100);
        room.pass(1);
        Check.is("4: asked", room.isAsked(0), true);
        room.publish(0, 20, 5);
        Check.is("4: no key picture was made", room.keys(0), 0);
        Check.is("4: none is asked", room.isAsked(0), false);
        Check.is("4: nothing of it is sent", room.layer(2, 0), 0);
        Check.is("4: nothing to the other one", room.layer(1, 0), 0);
        Check.is("4: it begins now, so it is later", room.seenAt(2, 0), 1);
        Check.is("4: the later one", room.seenAt(2, 1), 0);
        Check.is("4: it is not limited by the stream before", room.pass(1), 1);
        Check.is("4: keys(0) of the new one", room.keys(0), 1);
        Check.is("4: the new rate", room.layer(2, 0), 3);
        Check.is("4: another stream stays as it was", room.keys(1), 1);
    }

    private static void promise04PublishWrong() {
        Confroom room = room(2);
        room.publish(0, 10, 20);
        room.pass(1);
        int[] wrong = {0, 101, -1, Integer.MIN_VALUE, Integer.MAX_VALUE};
        for (int value : wrong) {
            Check.fails("4: base " + value, IllegalArgumentException.class,
                    () -> room.publish(0, value, 1));
            Check.fails("4: step " + value, IllegalArgumentException.class,
                    () -> room.publish(0, 1, value));
            Check.fails("4: no person first", NoSuchElementException.class,
                    () -> room.publish(2, value, value));
            Check.fails("4: no stream by that", IllegalArgumentException.class,
                    () -> room.publish(1, 1, value));
        }
        Check.fails("4: person -1", NoSuchElementException.class, () -> room.publish(-1, 1, 1));
        Check.fails("4: person 6", NoSuchElementException.class, () -> room.publish(6, 1, 1));
        Check.is("4: a wrong call leaves the stream", room.keys(0), 1);
        Check.is("4: and its layer", room.sent(1), 50);
        Check.fails("4: and publishes none", IllegalStateException.class, () -> room.keys(1));
    }

    private static void promise05End() {
        Confroom room = room(3);
        room.publish(0, 10, 10);
        room.publish(1, 20, 10);
        room.pass(1);
        room.end(0);
        Check.is("5: nothing of it is sent", room.layer(2, 0), 0);
        Check.is("5: sent(2)", room.sent(2), 40);
        Check.is("5: sent(1)", room.sent(1), 0);
        Check.is("5: it is not seen", room.seen(2), 1);
        Check.is("5: target(2, 0)", room.target(2, 0), 0);
        Check.is("5: the person stays", room.people(), 3);
        Check.is("5: what is sent to it stays", room.layer(0, 1), 3);
        Check.fails("5: end(0) again", IllegalStateException.class, () -> room.end(0));
        Check.fails("5: end(2) without a stream", IllegalStateException.class, () -> room.end(2));
        Check.fails("5: end(3)", NoSuchElementException.class, () -> room.end(3));
        Check.fails("5: end(-1)", NoSuchElementException.class, () -> room.end(-1));
        Check.fails("5: end(6)", NoSuchElementException.class, () -> room.end(6));
        room.publish(0, 1, 1);
        Check.is("5: a new one is the latest", room.seenAt(2, 1), 0);
        Check.is("5: and begins anew", room.keys(0), 0);
        Check.is("5: and is not limited", room.pass(1), 1);

        Confroom asked = room(3);
        asked.publish(0, 10, 10);
        asked.setEstimate(2, 10);
        asked.pass(1);
        asked.setEstimate(2, 100);
        asked.pass(1);
        Check.is("5: asked before", asked.isAsked(0), true);
        asked.end(0);
        Check.is("5: an ended stream makes no key picture", asked.pass(5), 0);
    }

    private static void promise06Mute() {
        Confroom room = room(2);
        Check.is("6: mute(0)", room.mute(0), true);
        Check.is("6: mute(1)", room.mute(1), true);
        Check.is("6: mute(0) takes it back", room.mute(0), false);
        Check.is("6: mute(0) once more", room.mute(0), true);
        Check.fails("6: mute(2)", NoSuchElementException.class, () -> room.mute(2));
        Check.fails("6: mute(-1)", NoSuchElementException.class, () -> room.mute(-1));
        Check.fails("6: mute(6)", NoSuchElementException.class, () -> room.mute(6));
        room.setLevel(0, 90);
        room.setLevel(1, 80);
        room.pass(3);
        Check.is("6: the muted don't speak", room.speaker(), -1);
        room.mute(1);
        room.pass(2);
        Check.is("6: who is not muted does", room.speaker(), 1);
        room.mute(1);
        room.pass(3);
        Check.is("6: a muted speaker stays the speaker", room.speaker(), 1);
        Check.is("6: mute keeps the level", room.setLevel(0, 0), 90);
    }

    private static void promise07SetLevel() {
        Confroom room = room(2);
        Check.is("7: the first level", room.setLevel(0, 100), 0);
        Check.is("7: the level before", room.setLevel(0, 0), 100);
        Check.is("7: of another one", room.setLevel(1, 31), 0);
        Check.is("7: the level before again", room.setLevel(0, 30), 0);
        for (int wrong : new int[] {-1, 101, Integer.MIN_VALUE, Integer.MAX_VALUE}) {
            Check.fails("7: level " + wrong, IllegalArgumentException.class,
                    () -> room.setLevel(0, wrong));
            Check.fails("7: no person first", NoSuchElementException.class,
                    () -> room.setLevel(2, wrong));
        }
        Check.fails("7: person -1", NoSuchElementException.class, () -> room.setLevel(-1, 1));
        Check.fails("7: person 6", NoSuchElementException.class, () -> room.setLevel(6, 1));
        Check.is("7: a wrong call changes nothing", room.setLevel(0, 0), 30);
        room.pass(20);
        Check.is("7: it stays with time", room.setLevel(1, 0), 31);
    }

    private static void promise08People() {
        Confroom room = new Confroom();
        for (int many = 0; many < 6; many++) {
            Check.is("8: people()", room.people(), many);
            room.join();
        }
        Check.is("8: people()", room.people(), 6);
        room.leave(0);
        Check.is("8: people() after leave", room.people(), 5);
        room.publish(1, 1, 1);
        room.end(1);
        room.mute(2);
        room.pass(3);
        Check.is("8: people() after other calls", room.people(), 5);
    }
}
