import java.util.ArrayList;
import java.util.List;

/**
 * A part of what can be seen of a field. Some looks change the field: each is made at one that
 * isn't used again, and none takes so many calls that the field is used up (512 in all).
 */
enum Lens {
    PITCHES {
        @Override
        void look(FieldPitches x, List<Integer> seen) {
            seen.add(x.count(0));
            int pitches = x.count(1);
            seen.add(pitches);
            for (int p = 0; p < pitches; p++) {
                for (int what = 0; what <= 7; what++) {
                    seen.add(x.pitchOf(p, what));
                }
                seen.add(x.stars(p));
                seen.add(x.gaps(p));
            }
        }
    },
    PARTIES {
        @Override
        void look(FieldPitches x, List<Integer> seen) {
            int parties = x.count(2);
            seen.add(parties);
            for (int p = 0; p < parties; p++) {
                for (int what = 0; what <= 9; what++) {
                    seen.add(x.partyOf(p, what));
                }
            }
            seen.add(x.apart());
        }
    },
    MONEY {
        @Override
        void look(FieldPitches x, List<Integer> seen) {
            seen.add(x.count(3));
            int parties = x.count(2);
            for (int p = 0; p < parties; p++) {
                seen.add(x.says(0, p));
                seen.add(x.says(1, p));
            }
            for (int p = 0; p < parties; p++) {
                seen.add(x.review(p, 5));
            }
            seen.add(x.repeal(0));
            seen.add(x.repeal(1));
        }
    },
    POWER {
        @Override
        void look(FieldPitches x, List<Integer> seen) {
            for (int post = 0; post < 4; post++) {
                seen.add(x.limit(post, 100));
                for (int hour = 0; hour < 24; hour++) {
                    seen.add(x.load(post, hour));
                }
            }
            seen.add(x.count(6));
            seen.add(x.count(7));
            for (int water = 0; water <= 99; water += 9) {
                seen.add(x.wet(water));
            }
        }
    },
    WASHERS_AND_SPOTS {
        @Override
        void look(FieldPitches x, List<Integer> seen) {
            seen.add(x.count(5));
            for (int showers = 1; showers <= 6; showers++) {
                for (int what = 0; what <= 2; what++) {
                    seen.add(x.block(showers, what));
                }
            }
            for (int spot = 0; spot <= 9; spot++) {
                seen.add(x.as(spot, 0));
            }
        }
    },
    TAPE {
        @Override
        void look(FieldPitches x, List<Integer> seen) {
            seen.add(x.count(4));
            seen.add(x.law(0));
            seen.add(x.count(2) > 0 ? x.says(0, 0) : 0);
        }
    },
    SHEETS {
        @Override
        void look(FieldPitches x, List<Integer> seen) {
            for (int s = 0; s < 4; s++) {
                seen.add(x.join(s));
                for (int t = 0; t < 4; t++) {
                    seen.add(x.copy(s, 0, t, 0, 0));
                }
                for (int n = 1; n <= 60; n++) {
                    seen.add(x.copy(s, 0, s, 0, n));
                }
            }
        }
    },
    IMAGE {
        @Override
        void look(FieldPitches x, List<Integer> seen) {
            seen.add(x.undo());
            PARTIES.look(x, seen);
            for (int what = 0; what <= 7; what++) {
                seen.add(x.count(what));
            }
            seen.add(x.tear());
        }
    };

    abstract void look(FieldPitches x, List<Integer> seen);

    List<Integer> lookAt(FieldPitches x) {
        List<Integer> seen = new ArrayList<>();
        look(x, seen);
        return seen;
    }
}
