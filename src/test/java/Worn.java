/** A chip with something of every kind in it, so that a change of anything can be seen. */
final class Worn {
    static final int D = 2;
    static final int R = 15;
    static final int N = 31;
    /** Pages whose words are LOST: too many bits are turned, too many are marked. */
    static final int TURNED_TOO_MUCH = 2;
    static final int MARKED_TOO_MUCH = 3;

    private Worn() {
    }

    /** The code (5, 3, 2), whose words have just as many bits as its field has powers. */
    static Scene scene() {
        return Scene.of(Worn::write, Worn::wear, Worn::lose, Worn::read);
    }

    private static int write(PageMender x) {
        x.open(5, 3, D);
        x.put(0, 0xA5);
        x.put(1, 0x3C);
        x.write(0);
        x.flip(0, 4);
        x.flip(0, 30);
        x.mark(0, 30, true);
        x.mark(0, 7, true);
        x.put(1, 0x81);
        x.write(15);
        return x.flip(15, 16);
    }

    private static int wear(PageMender x) {
        x.erase(1);
        x.erase(1);
        x.erase(15);
        x.write(15);
        x.flip(15, 16);
        x.stick(1, 3, 0);
        x.stick(1, 0, 1);
        return x.stick(15, 30, 0);
    }

    private static int lose(PageMender x) {
        for (int k = 0; k < 4; k++) {
            x.flip(TURNED_TOO_MUCH, 9 * k);
        }
        for (int k = 0; k < 7; k++) {
            x.mark(MARKED_TOO_MUCH, k, true);
        }
        return 0;
    }

    /** Each kind another number of times, and a LOST one last, which leaves what is told. */
    private static int read(PageMender x) {
        x.read(4);
        x.read(4);
        x.read(4);
        x.read(15);
        x.read(0);
        x.read(TURNED_TOO_MUCH);
        return x.put(1, 0x42);
    }
}
