import java.util.ArrayList;
import java.util.List;

/** Asks a council for all that can be known of it, in some 400 calls; it is of no use behind it. */
final class Probe {

    private static final int[] NOTES = {-1, 0, 1, 2, 6, 7, 8, 50, 97, 98, 99};

    private final RingCouncil council;
    private final int rooms;
    private final List<Integer> answers = new ArrayList<>();

    private Probe(RingCouncil council) {
        this.council = council;
        rooms = council.about(0);
    }

    static int[] answers(RingCouncil council) {
        Probe probe = new Probe(council);
        probe.look();
        probe.tried();
        probe.tape();
        probe.undone();
        probe.lies();
        probe.barred();
        probe.told();
        probe.imaged();
        return probe.answers.stream().mapToInt(answer -> answer).toArray();
    }

    private void add(int answer) {
        answers.add(answer);
    }

    private void look() {
        for (int what = 0; what < 10; what++) {
            add(council.about(what));
        }
        for (int room = 0; room < rooms; room++) {
            for (int what = 0; what < 7; what++) {
                add(council.of(room, what));
            }
        }
        add(council.agree() ? 1 : 0);
        add(council.fault(0));
        add(council.fault(1));
    }

    private void tried() {
        add(council.agrees(0));
        add(council.agrees(1));
        add(council.holds(2, 1));
        add(council.states(2, 1));
        add(council.bad(1, 1, 0, 0, 1));
        add(council.suspects(1));
        add(council.slips(2, 0, 3, -1));
        add(council.learns(0, 3, 1));
    }

    /** What is on the tape shows in the words that are said by it. */
    private void tape() {
        int ruling = council.about(4);
        int number = council.text();
        add(number);
        add(council.fault(0));
        add(council.fault(1));
        if (number >= 0) {
            council.by(number);
            for (int room = 0; room < rooms; room++) {
                add(council.of(room, 3));
            }
            council.by(ruling);
        }
    }

    private void undone() {
        for (int i = 0; i < 41; i++) {
            add(council.undo());
            add(council.of(i % rooms, i % 3));
        }
        add(council.about(2));
    }

    /** All are made liars, so that all lies show. */
    private void lies() {
        for (int room = 0; room < rooms; room++) {
            council.elder(room, 1, 1);
        }
        council.start();
        council.hours(1);
        add(council.about(2));
        for (int room = 0; room < rooms; room++) {
            add(council.of(room, 1));
            add(council.of(room, 2));
        }
        for (int room = 0; room < rooms; room++) {
            council.lies(room, -1, -1, true);
        }
        council.hours(1);
        add(council.about(2));
    }

    private void barred() {
        for (int note : NOTES) {
            council.lies(0, note, -1, false);
            council.hours(1);
            add(council.of(rooms - 1, 2));
        }
    }

    private void told() {
        for (int room = 1; room < rooms; room++) {
            council.elder(room, 0, room);
        }
        add(council.suspects(2));
        add(council.forget());
    }

    private void imaged() {
        add(council.back());
        look();
        add(council.undo());
        add(council.of(0, 0));
    }
}
