/** A run of calls: brings an object to where a test begins, as often as that is wanted. */
interface Scene {
    void play(Memory memory);

    /** A new object, brought there. */
    default Past past() {
        Past past = new Past();
        play(past);
        return past;
    }

    default Scene then(Scene next) {
        return memory -> {
            play(memory);
            next.play(memory);
        };
    }
}
