import java.util.ArrayList;
import java.util.HashMap;
import java.util.List;
import java.util.Map;
import java.util.NoSuchElementException;

/**
 * The document once more, written another way than the class: people and streams are objects that
 * are never used again, the loudest ones and the key pictures are kept as their whole history.
 */
final class Model {
    static final class Stream {
        Member owner;
        int base;
        int step;
        boolean asked;
        final List<Integer> keySeconds = new ArrayList<>();

        int rate(int layer) {
            return layer == 0 ? 0 : base + (layer - 1) * step;
        }
    }

    static final class Member {
        int number;
        int level = 0;
        boolean muted = false;
        int places = 3;
        int estimate = 100;
        Member pinned = null;
        Stream stream = null;
        final Map<Stream, Integer> layers = new HashMap<>();

        int layerOf(Stream of) {
            return layers.getOrDefault(of, 0);
        }
    }

    private final List<Member> members = new ArrayList<>();
    private final List<Stream> streams = new ArrayList<>();
    /** The earliest first; one who spoke twice stands where it spoke last. */
    private final List<Member> spoke = new ArrayList<>();
    private final List<Member> loudest = new ArrayList<>();
    private Member leader = null;
    private int hold = 2;
    private int limit = 3;

    int join() {
        if (members.size() == 6) {
            throw new IllegalStateException();
        }
        Member member = new Member();
        while (find(member.number) != null) {
            member.number++;
        }
        members.add(member);
        return member.number;
    }

    void leave(int person) {
        Member member = need(person);
        remove(member.stream);
        members.remove(member);
        spoke.remove(member);
        if (leader == member) {
            leader = null;
        }
        for (Member each : members) {
            if (each.pinned == member) {
                each.pinned = null;
            }
        }
    }

    void publish(int person, int base, int step) {
        Member member = need(person);
        range(base, 1, 100);
        range(step, 1, 100);
        remove(member.stream);
        Stream stream = new Stream();
        stream.owner = member;
        stream.base = base;
        stream.step = step;
        member.stream = stream;
        streams.add(stream);
    }

    void end(int person) {
        remove(needStream(person));
    }

    boolean mute(int person) {
        Member member = need(person);
        member.muted = !member.muted;
        return member.muted;
    }

    int setLevel(int person, int level) {
        Member member = need(person);
        range(level, 0, 100);
        int before = member.level;
        member.level = level;
        return before;
    }

    int people() {
        return members.size();
    }

    int pin(int receiver, int other) {
        Member member = need(receiver);
        Member pinned = other == -1 ? null : need(other);
        if (member == pinned) {
            throw new IllegalArgumentException();
        }
        int before = number(member.pinned);
        member.pinned = pinned;
        return before;
    }

    int setPlaces(int receiver, int places) {
        Member member = need(receiver);
        range(places, 0, 5);
        int before = member.places;
        member.places = places;
        return before;
    }

    int setEstimate(int receiver, int estimate) {
        Member member = need(receiver);
        range(estimate, 0, 2000);
        int before = member.estimate;
        member.estimate = estimate;
        return before;
    }

    void setTimes(int newHold, int newLimit) {
        range(newHold, 1, 10);
        range(newLimit, 0, 10);
        hold = newHold;
        limit = newLimit;
    }

    int pass(int seconds) {
        range(seconds, 1, 20);
        int made = 0;
        for (int i = 0; i < seconds; i++) {
            made += second();
        }
        return made;
    }

    int now() {
        return loudest.size();
    }

    int speaker() {
        return number(leader);
    }

    int seen(int receiver) {
        return view(need(receiver)).size();
    }

    int seenAt(int receiver, int place) {
        List<Stream> view = view(need(receiver));
        if (place < 0 || place >= view.size()) {
            throw new IndexOutOfBoundsException();
        }
        return view.get(place).owner.number;
    }

    int target(int receiver, int other) {
        Member from = need(receiver);
        return targets(from).getOrDefault(need(other).stream, 0);
    }

    int layer(int receiver, int other) {
        Member from = need(receiver);
        Stream stream = need(other).stream;
        return stream == null ? 0 : from.layerOf(stream);
    }

    int sent(int receiver) {
        Member member = need(receiver);
        int sum = 0;
        for (Stream stream : streams) {
            sum += stream.rate(member.layerOf(stream));
        }
        return sum;
    }

    int keys(int person) {
        return needStream(person).keySeconds.size();
    }

    boolean isAsked(int person) {
        return needStream(person).asked;
    }

    private int second() {
        loudest.add(findLoudest());
        Member candidate = heldLongEnough();
        if (candidate != null) {
            leader = candidate;
            spoke.remove(candidate);
            spoke.add(candidate);
        }
        for (Member member : members) {
            Map<Stream, Integer> targets = targets(member);
            for (Stream stream : streams) {
                int due = targets.getOrDefault(stream, 0);
                if (member.layerOf(stream) > due) {
                    member.layers.put(stream, due);
                } else if (member.layerOf(stream) < due) {
                    stream.asked = true;
                }
            }
        }
        int made = 0;
        for (Stream stream : streams) {
            if (stream.asked && isKeyAllowed(stream)) {
                stream.asked = false;
                stream.keySeconds.add(now());
                made++;
                for (Member member : members) {
                    member.layers.put(stream, targets(member).getOrDefault(stream, 0));
                }
            }
        }
        return made;
    }

    private boolean isKeyAllowed(Stream stream) {
        for (int back = 1; back <= limit; back++) {
            if (stream.keySeconds.contains(now() - back)) {
                return false;
            }
        }
        return true;
    }

    private Member findLoudest() {
        Member best = null;
        for (int number = 5; number >= 0; number--) {
            Member member = find(number);
            if (member != null && !member.muted && member.level >= 30
                    && (best == null || member.level >= best.level)) {
                best = member;
            }
        }
        return best;
    }

    private Member heldLongEnough() {
        int last = loudest.size() - 1;
        for (int back = 0; back < hold; back++) {
            if (last - back < 0 || loudest.get(last - back) != loudest.get(last)) {
                return null;
            }
        }
        return loudest.get(last);
    }

    private List<Stream> view(Member receiver) {
        List<Stream> wanted = new ArrayList<>();
        if (receiver.pinned != null) {
            wanted.add(receiver.pinned.stream);
        }
        for (int i = spoke.size() - 1; i >= 0; i--) {
            wanted.add(spoke.get(i).stream);
        }
        wanted.addAll(streams);
        List<Stream> view = new ArrayList<>();
        for (Stream stream : wanted) {
            if (stream != null && stream.owner != receiver && !view.contains(stream)) {
                view.add(stream);
            }
        }
        return view.subList(0, Math.min(view.size(), receiver.places));
    }

    private Map<Stream, Integer> targets(Member receiver) {
        Map<Stream, Integer> targets = new HashMap<>();
        int rest = receiver.estimate;
        for (Stream stream : view(receiver)) {
            if (stream.base <= rest) {
                rest -= stream.base;
                targets.put(stream, 1);
            }
        }
        for (Stream stream : view(receiver)) {
            if (targets.containsKey(stream)) {
                int more = Math.min(2, rest / stream.step);
                rest -= more * stream.step;
                targets.put(stream, 1 + more);
            }
        }
        return targets;
    }

    private void remove(Stream stream) {
        if (stream != null) {
            streams.remove(stream);
            stream.owner.stream = null;
        }
    }

    private Member find(int number) {
        for (Member member : members) {
            if (member.number == number) {
                return member;
            }
        }
        return null;
    }

    private Member need(int number) {
        Member member = find(number);
        if (member == null) {
            throw new NoSuchElementException();
        }
        return member;
    }

    private Stream needStream(int person) {
        Stream stream = need(person).stream;
        if (stream == null) {
            throw new IllegalStateException();
        }
        return stream;
    }

    private static int number(Member member) {
        return member == null ? -1 : member.number;
    }

    private static void range(int value, int least, int most) {
        if (value < least || value > most) {
            throw new IllegalArgumentException();
        }
    }
}
