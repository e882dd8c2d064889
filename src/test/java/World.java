/** Objects with much in them, behind whose making refused calls are tried. None takes more than 300 calls. */
enum World {
    /** Nothing was done yet. */
    NEW(3, 2) {
        @Override
        void make(SeamFire x) {
            // It is as it was made.
        }
    },
    /** At clock 0, with some of all, and an image from the midst of it. */
    BEGUN(4, 3) {
        @Override
        void make(SeamFire x) {
            seam(x);
            x.image();
            town(x);
            law(x);
            Due.put(x, "worth 5; yes kin=1; whose 3 week<50; shut cracks>2;");
        }
    },
    /** At clock 7, with more of all, an image of week 3, and a text that had a fault. */
    LATER(4, 3) {
        @Override
        void make(SeamFire x) {
            seam(x);
            town(x);
            law(x);
            x.weeks(3);
            x.image();
            x.plug(0);
            x.hole(6);
            x.pour(6, 18);
            x.trench(3, 2, 3, 2);
            x.state(5, 6);
            x.offer(1, 100, 8);
            x.weeks(4);
            x.read(0, 6, false);
            x.hears(3, 9);
            Due.act(x, "worth 10000;");
            Due.put(x, "worth 6;");
        }
    },
    /** At clock 2, with as many of all as there can be, but readings. */
    FULL(4, 3) {
        @Override
        void make(SeamFire x) {
            seam(x);
            town(x);
            law(x);
            x.image();
            x.weeks(2);
            fill(x);
        }
    },
    /** At clock 2, with all readings that there can be. */
    READ(4, 3) {
        @Override
        void make(SeamFire x) {
            seam(x);
            town(x);
            x.weeks(2);
            for (int i = 2; i < 200; i++) {
                x.read(i % 12, i % 3, i % 12 == 0);
            }
        }
    },
    /** At clock 100. */
    ENDED(4, 3) {
        @Override
        void make(SeamFire x) {
            seam(x);
            town(x);
            law(x);
            for (int i = 0; i < 5; i++) {
                x.weeks(19);
            }
            x.image();
            x.state(4, 97);
            x.weeks(4);
            x.plug(0);
            x.hole(4);
            x.weeks(1);
            Due.put(x, "shut size=2;");
        }
    };

    final int w;
    final int h;

    World(int w, int h) {
        this.w = w;
        this.h = h;
    }

    abstract void make(SeamFire x);

    /** Those in which something may still be told: room is left in all rows, and weeks are. */
    static World[] open() {
        return new World[] {BEGUN, LATER};
    }

    /** All but the new one. */
    static World[] furnished() {
        return new World[] {BEGUN, LATER, FULL, READ, ENDED};
    }

    /** Rooms are 1, 2, 6 side by side, and 9; water is 8, rock 11. */
    static void seam(SeamFire x) {
        int[] kinds = {1, 3, 3, 2, 1, 1, 3, 1, 4, 3, 1, 0};
        int[] tons = {60, 0, 0, 40, 90, 25, 0, 30, 0, 0, 999, 0};
        for (int c = 0; c < 12; c++) {
            x.cell(c, kinds[c], tons[c]);
        }
        x.rules(2, 9, 4);
        x.hole(1);
        x.hole(5);
        x.hole(9);
        x.plug(1);
        x.pour(9, 7);
        x.pour(1, 25);
        x.trench(7, 2, 2, 1);
        x.state(0, 0);
        x.state(10, 2);
        x.state(4, 1);
        x.read(3, 0, false);
        x.read(10, 0, false);
    }

    static void town(SeamFire x) {
        x.house(0, 3, 2);
        x.house(10, 9, 9);
        x.house(7, 0, 1);
        int[][] people = {{0, 1, 500}, {0, 1, 900}, {1, 1, 250}, {1, 2, 700}, {2, 3, 0}, {2, 1, 5000}, {0, 4, 1300}};
        for (int[] p : people) {
            x.person(p[0], p[1], p[2]);
        }
        x.hears(1, 2);
        x.pull(200);
        x.offer(0, 400, 5);
        x.offer(2, 0, 0);
        x.place(1, 30);
        x.place(6, 50);
        x.place(9, 10);
    }

    static void law(SeamFire x) {
        Due.act(x, "shut gas>9;worth size*100-gas;whose 2 people<4;whose 5 week>3;yes heard>0 or ask<300;");
        x.force(0, 0, 50);
        Due.act(x, "worth 7;");
        x.force(1, 4, 9);
    }

    private static void fill(SeamFire x) {
        for (int i = 3; i < 20; i++) {
            x.hole(i % 12);
        }
        for (int i = 2; i < 40; i++) {
            x.pour(i % 2 == 0 ? 9 : 6, 1);
        }
        for (int i = 1; i < 10; i++) {
            x.trench(i, 1, 1, 1 + i % 8);
        }
        for (int i = 3; i < 8; i++) {
            x.state(i % 2 == 0 ? 3 : 5, i);
        }
        for (int i = 3; i < 20; i++) {
            x.house(i % 12, i % 10, 1 + i % 9);
        }
        for (int i = 7; i < 60; i++) {
            x.person(i % 20, i % 10, 20 * i);
        }
        for (int i = 3; i < 6; i++) {
            x.place(2, i);
        }
        Due.act(x, "worth week+people;");
        for (int i = 3; i < 10; i++) {
            x.act();
        }
        for (int i = 2; i < 30; i++) {
            x.force(i % 10, 2 + i, 60 + i);
        }
        // "yes gas>1;" and blanks, to the last byte.
        x.feed(0x79657320, 0x6761733E, 0x313B2020, 0x20202020, 0x20202020);
        for (int i = 1; i < 15; i++) {
            x.feed(0x20202020, 0x20202020, 0x20202020, 0x20202020, 0x20202020);
        }
    }
}
