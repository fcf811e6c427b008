import java.util.Arrays;

/**
 * Looks at all that an object's calls can show of one part of it, and spoils it by that: two objects that show
 * the same to every Probe are in the same state, as far as the face tells. No look takes more than 350 calls.
 */
enum Probe {
    STICKS {
        @Override
        void lookAt(ThrowersBag x) {
            for (int what = 0; what < 6; what++) {
                note(x.count(what));
            }
            for (int s = 0; s < 9; s++) {
                for (int what = 0; what < 7; what++) {
                    note(x.told(s, what));
                }
                for (int band = 0; band < 4; band++) {
                    note(x.lift(s, band, 0));
                }
                note(x.bend(s, 0));
            }
        }
    },
    FLIGHT {
        @Override
        void lookAt(ThrowersBag x) {
            int last = x.ticks();
            note(last);
            note(x.hit());
            for (int tick : new int[] {0, 1, 2, 4, last / 3, last / 2, last - 1, last, last + 1, 400}) {
                for (int what = 0; what < 8; what++) {
                    note(x.at(tick, what));
                }
            }
            for (int what = 0; what < 4; what++) {
                note(x.chosen(what));
            }
        }
    },
    /** The ring by its own call, winds and trees by what they do to a throw; a stick 0 is made if there is none. */
    WINDS {
        @Override
        void lookAt(ThrowersBag x) {
            note(x.count(0) == 0 ? x.plain(5, 0, 1, 0) : 0);
            for (int angle = 0; angle < 360; angle += 45) {
                note(x.fly(0, 0, angle, 100, 1000, -1));
                note(x.ticks());
                note(x.hit());
            }
            note(x.ring(1));
            for (int band = 0; band < 4; band++) {
                x.lift(0, band, 300);
            }
            for (int w = 0; w < 8; w++) {
                note(x.fly(0, 0, 0, 250, 1000, w));
                for (int tick : new int[] {1, 2, 3, 5, 8, 12, 16}) {
                    note(x.at(tick, 0));
                    note(x.at(tick, 1));
                }
                for (int band = 0; band < 4; band++) {
                    note(x.blows(w, band, 0, 0));
                }
            }
        }
    },
    /** Two in the air, and the match. */
    PLAYS {
        @Override
        void lookAt(ThrowersBag x) {
            for (int gap : new int[] {1, 10, 20, 30, 40, 50, 70, 100}) {
                note(x.two(gap));
            }
            for (int s = 0; s < 9; s++) {
                for (int w = -1; w < 8; w++) {
                    note(x.points(s, w));
                }
            }
            note(x.best());
            for (int i = 0; i < 5; i++) {
                note(x.order(i));
                note(x.match(i, -2));
            }
        }
    },
    ROWS {
        @Override
        void lookAt(ThrowersBag x) {
            for (int r = 0; r < 30; r++) {
                for (int bend = -9; bend <= 9; bend += 9) {
                    note(x.miss(r, bend));
                }
            }
            for (int s = 0; s < 9; s++) {
                note(x.explain(s));
                note(x.sure(s));
            }
            for (int r = 0; r < 31; r++) {
                note(x.unrow());
            }
        }
    },
    GRASS {
        @Override
        void lookAt(ThrowersBag x) {
            note(x.next());
            for (int p = 0; p < 25; p++) {
                note(x.grass(p, 0));
                note(x.grass(p, 1));
                note(x.search(p));
            }
            note(x.seen(0));
            note(x.seen(x.ticks()));
        }
    },
    SHEET_0 {
        @Override
        void lookAt(ThrowersBag x) {
            sheet(x, 0);
        }
    },
    SHEET_1 {
        @Override
        void lookAt(ThrowersBag x) {
            sheet(x, 1);
        }
    },
    SHEET_2 {
        @Override
        void lookAt(ThrowersBag x) {
            sheet(x, 2);
        }
    },
    SHEET_3 {
        @Override
        void lookAt(ThrowersBag x) {
            sheet(x, 3);
        }
    };

    private static final int MOST_NOTES = 400;

    private int[] notes;
    private int noted;

    abstract void lookAt(ThrowersBag x);

    final int[] look(ThrowersBag x) {
        notes = new int[MOST_NOTES];
        noted = 0;
        lookAt(x);
        return Arrays.copyOf(notes, noted);
    }

    final void note(int answer) {
        notes[noted] = answer;
        noted++;
    }

    /** The lane, the items (those from -9999 to 9999 by the miss of a row that has them as its y), how many. */
    final void sheet(ThrowersBag x, int sheet) {
        for (int lane = 0; lane < 3; lane++) {
            int whether = x.rows(sheet, lane, 0, 0);
            note(whether);
            if (whether >= 0) {
                items(x, sheet, lane);
            }
        }
        note(x.drop(sheet));
    }

    private void items(ThrowersBag x, int sheet, int lane) {
        note(x.count(0) == 0 ? x.plain(100, 0, 1, 0) : 0);
        note(x.unrow());
        int other = (sheet + 1) % 4;
        x.sheet(other, lane, 7);
        x.item(other, lane, 2, 0);
        x.item(other, lane, 3, 30);
        x.item(other, lane, 4, 100);
        for (int i = 0; i < 60; i++) {
            int copied = x.copy(sheet, i, other, 6, 1);
            note(copied);
            int rows = copied < 0 ? copied : x.rows(other, lane, 0, 1);
            note(rows);
            if (rows > 0) {
                note(x.miss(rows - 1, 0));
                x.unrow();
            }
        }
    }
}
