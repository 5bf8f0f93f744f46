/** README's example, call by call, with the answers that are written beside it there. */
public final class ReadmeTest {
    private static final Due due = new Due();

    public static void main(String[] args) {
        RingPetition petition = new RingPetition();
        int ann = petition.member(petition.key(1));
        int bob = petition.member(petition.key(2));
        int ring = petition.ring(1 << ann | 1 << bob);
        int topic = petition.topic(77);
        due.is("Ann", ann, 0);
        due.is("Bob", bob, 1);
        due.is("the ring", ring, 0);
        due.is("the topic", topic, 0);

        due.is("Bob's tag", petition.sign(ring, topic, 1, 2, 5), 49);
        due.is("submit", petition.submit(ring, topic, 5), 1);
        due.is("Bob's tag for another motion", petition.sign(ring, topic, 1, 2, 6), 49);
        due.is("seen", petition.seen(topic), true);
        due.unsupported("a second submit", () -> petition.submit(ring, topic, 6));

        due.is("close", petition.close(topic), 1);
        due.illegalState("submit for the closed topic", () -> petition.submit(ring, topic, 6));
        due.is("recount", petition.recount(topic), 1);
        strangerChecks(petition, topic);
        due.finish("ReadmeTest");
    }

    private static void strangerChecks(RingPetition petition, int topic) {
        int ints = petition.export(topic);
        due.is("export", ints, 10);
        RingPetition stranger = new RingPetition();
        for (int i = 0; i < ints; i++) {
            stranger.poke(i, petition.bundle(i));
        }
        due.is("check", stranger.check(), 1);
    }
}
