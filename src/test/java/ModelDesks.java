import java.util.List;

/** The desks as real classes: the Java machine itself says which body runs. */
final class ModelDesks {
    static final Class<?>[] CLASSES = {Desk.class, Left.class, Each.class, Near.class,
        Keep.class, Room.class, Told.class, Cat.class};

    static Desk of(int kind, int n, List<Integer> ran) {
        Desk d = switch (kind) {
            case 0 -> new Desk();
            case 1 -> new Left();
            case 2 -> new Each();
            case 3 -> new Near();
            case 4 -> new Keep();
            case 5 -> new Room();
            case 6 -> new Told();
            default -> new Cat();
        };
        d.n = n;
        d.ran = ran;
        return d;
    }

    interface Sets {
        int number();
        void note(int body);
        default int sets(int x) { note(1); return x + number(); }
    }

    interface Tells {
        void note(int body);
        int sits(int x);
        int slips(int x);
        default int tells(int x) { note(2); return sits(x) - slips(1); }
    }

    static class Desk implements Sets, Tells {
        int n;
        List<Integer> ran;
        public int number() { return n; }
        public void note(int body) { ran.add(body); }
        public int sits(int x) { note(10); return sets(x) * 2; }
        public int slips(int x) { note(11); return x ^ n; }
    }

    static class Left extends Desk {
        public int sets(int x) { note(20); return super.sets(x) + 3; }
    }

    static class Each extends Desk {
        public int sits(int x) { note(30); return -super.sits(x); }
    }

    static class Near extends Each {
        public int slips(int x) { note(40); return super.slips(x) * 3; }
        public int sits(int x) { note(41); return super.sits(x + 1); }
    }

    static class Keep extends Left {
        public int slips(int x) { note(50); return super.slips(x) - sets(2); }
    }

    static class Room extends Near {
        public int tells(int x) { note(60); return super.tells(x) ^ 5; }
    }

    static class Told extends Desk {
        public int sets(int x) { note(70); return super.sets(x) * 2; }
    }

    static class Cat extends Keep {
        public int sits(int x) { note(80); return super.sits(x) + slips(2); }
        public int tells(int x) { note(81); return super.tells(x) - 1; }
    }
}
