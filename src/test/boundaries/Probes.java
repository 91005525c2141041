/**
 * Runs of calls that show in their answers what an object keeps: two objects that keep alike answer alike.
 * They are many, because no object may be asked more than 512 times.
 */
enum Probes {
    ASKS {
        @Override
        void ask() {
            askAll();
        }
    },

    /** Shows how many images there are, how many steps they have, and with what inputs. */
    IMAGES {
        @Override
        void ask() {
            for (int image = 0; image < 10; image++) {
                int number = image;
                ask(x -> x.step(number, 9));
                ask(x -> x.step(number, 9));
                ask(x -> x.bake(number));
                ask(x -> x.isFreshAnew(number));
            }
            for (int i = 0; i < 11; i++) {
                ask(x -> x.add(-1));
            }
            ask(Baker::bakeAll);
            askForLayersAndTops();
        }
    },

    /** Shows the layers and the line. */
    BAKE_ALL {
        @Override
        void ask() {
            ask(Baker::bakeAll);
            askForLayersAndTops();
            ask(x -> x.change(0, -1));
            ask(Baker::bakeAll);
            askForLayersAndTops();
        }
    },

    /** Shows the version that each input has now, and the greatest one that it had. */
    INPUTS {
        @Override
        void ask() {
            ask(x -> x.add(-1));
            ask(x -> x.add(-1));
            int last = countImages() - 1;
            for (int input = 0; input < 10; input++) {
                int number = input;
                ask(x -> x.step(last - number / 5, number));
            }
            ask(Baker::bakeAll);
            ask(Baker::layers);
            for (int input = 0; input < 10; input++) {
                int number = input;
                ask(x -> x.change(number, -1));
                for (int version = 0; version < 4; version++) {
                    int earlier = version;
                    ask(x -> x.change(number, earlier));
                    ask(x -> x.isFresh(last));
                    ask(x -> x.isFresh(last - 1));
                }
            }
        }
    },

    /** Shows the rings in which tests passed, and to which places bakes were copied, with which delays. */
    BAKES {
        @Override
        void ask() {
            int bakes = bakes();
            for (int bake = 0; bake < bakes; bake++) {
                int number = bake;
                ask(x -> x.raise(number));
                for (int place = 0; place < 3; place++) {
                    int to = place;
                    ask(x -> x.copy(number, to));
                }
                ask(x -> x.state(number));
            }
        }
    },

    /** Shows from which days on bakes are where, and both ages. */
    DAYS {
        @Override
        void ask() {
            int[] days = {0, 1, 1, 1, 1, 1, 1, 1, 1, 1, 1, 1, 9, 1, 1, 30, 30, 18, 1, 1};
            for (int each : days) {
                ask(x -> x.pass(each));
                for (int bake = 0; bake < 8; bake++) {
                    int number = bake;
                    ask(x -> x.state(number));
                }
                for (int place = 0; place < 3; place++) {
                    int at = place;
                    ask(x -> x.stop(x.start(0, at, 0)));
                }
            }
        }
    },

    /** Shows what machines were started with, and what they run from. */
    MACHINES {
        @Override
        void ask() {
            ask(Baker::old);
            for (int machine = 0; machine < 30; machine++) {
                int number = machine;
                ask(x -> x.renew(number));
                ask(x -> x.oldAt(number / 3));
            }
            ask(x -> x.hold(x.latest(0)));
            ask(Baker::old);
            for (int machine = 0; machine < 30; machine++) {
                int number = machine;
                ask(x -> x.renew(number));
                ask(x -> x.stop(number));
            }
            for (int i = 0; i < 31; i++) {
                ask(x -> x.start(0, 0, 0));
            }
        }
    },

    /** Shows from how many machines each bake runs. */
    HOLDS {
        @Override
        void ask() {
            int bakes = bakes();
            for (int bake = 0; bake < bakes; bake++) {
                int number = bake;
                ask(x -> x.hold(number));
            }
            askAll();
        }
    };

    private Baker asked;
    private StringBuilder answers;

    abstract void ask();

    String answersOf(Baker x) {
        asked = x;
        answers = new StringBuilder();
        ask();
        return answers.toString();
    }

    void ask(Check.Call call) {
        answers.append(' ').append(nameOf(Check.answerOf(asked, call)));
    }

    private static Object nameOf(Object answer) {
        return answer instanceof Class<?> thrown ? thrown.getSimpleName() : answer;
    }

    int bakes() {
        return asked.bakes();
    }

    int countImages() {
        int images = 0;
        while (!(Check.answerOf(asked, latestOf(images)) instanceof Class)) {
            images++;
        }
        return images;
    }

    private static Check.Call latestOf(int image) {
        return x -> x.latest(image);
    }

    void askAll() {
        for (int i = -1; i <= 10; i++) {
            int number = i;
            ask(x -> x.latest(number));
            ask(x -> x.isFresh(number));
            ask(x -> x.isFreshAnew(number));
        }
        int bakes = bakes();
        for (int i = -1; i <= bakes; i++) {
            int number = i;
            ask(x -> x.state(number));
        }
        for (int i = -1; i <= 30; i++) {
            int number = i;
            ask(x -> x.runsFrom(number));
            ask(x -> x.oldAt(number));
        }
        ask(Baker::old);
        askForLayersAndTops();
    }

    void askForLayersAndTops() {
        ask(Baker::layers);
        ask(Baker::bakes);
        int bakes = bakes();
        for (int i = -1; i <= bakes; i++) {
            int number = i;
            ask(x -> x.top(number));
        }
    }
}
