/** The calls by number, on the class and on the model: four numbers are given, of which a call takes the first ones. */
final class Calls {
    static final String[] NAMES = {"act", "put", "empty", "at", "about", "graft", "same", "rule", "nought",
        "unrule", "side", "matches", "step", "normal", "howMany", "overlaps", "overlap", "closes", "turned", "dual",
        "count", "digest"};
    /** How many numbers each call takes. */
    static final int[] TAKES = {1, 2, 1, 2, 2, 4, 2, 2, 1, 0, 3, 2, 1, 1, 1, 0, 2, 0, 1, 1, 1, 0};

    private Calls() {
    }

    static long onReal(LeafTrees x, int op, int[] four) {
        int a = four[0], b = four[1], c = four[2], d = four[3];
        switch (op) {
            case 0: return x.act(a);
            case 1: return x.put(a, b);
            case 2: return x.empty(a);
            case 3: return x.at(a, b);
            case 4: return x.about(a, b);
            case 5: return x.graft(a, b, c, d);
            case 6: return x.same(a, b);
            case 7: return x.rule(a, b);
            case 8: return x.nought(a);
            case 9: return x.unrule();
            case 10: return x.side(a, b, c);
            case 11: return x.matches(a, b);
            case 12: return x.step(a);
            case 13: return x.normal(a);
            case 14: return x.howMany(a);
            case 15: return x.overlaps();
            case 16: return x.overlap(a, b);
            case 17: return x.closes();
            case 18: return x.turned(a);
            case 19: return x.dual(a);
            case 20: return x.count(a);
            default: return x.digest();
        }
    }

    static long onModel(PlainModel x, int op, int[] four) {
        int a = four[0], b = four[1], c = four[2], d = four[3];
        switch (op) {
            case 0: return x.act(a);
            case 1: return x.put(a, b);
            case 2: return x.empty(a);
            case 3: return x.at(a, b);
            case 4: return x.about(a, b);
            case 5: return x.graft(a, b, c, d);
            case 6: return x.same(a, b);
            case 7: return x.rule(a, b);
            case 8: return x.nought(a);
            case 9: return x.unrule();
            case 10: return x.side(a, b, c);
            case 11: return x.matches(a, b);
            case 12: return x.step(a);
            case 13: return x.normal(a);
            case 14: return x.howMany(a);
            case 15: return x.overlaps();
            case 16: return x.overlap(a, b);
            case 17: return x.closes();
            case 18: return x.turned(a);
            case 19: return x.dual(a);
            case 20: return x.count(a);
            default: return x.digest();
        }
    }
}
