/** The calls of the face by their names. */
final class Calls {
    static final String[] NAMES = {"begin", "addBar", "setBar", "removeBar", "mark", "removeMark", "cue", "removeCue", "load",
        "undo", "keep", "back", "append", "clearInput", "firstError", "start", "advance", "stop", "playing", "bar", "beat",
        "click", "tempo", "cueAt", "at", "count", "bestSpeed", "rubberFor", "ifMark", "meanTempo", "digest"};

    private Calls() {
    }

    /** A double is answered by its bits; of a mark, 1 stands for true. */
    static long on(TempoPlayer player, String name, long... a) {
        switch (name) {
            case "begin": return player.begin();
            case "addBar": return player.addBar(whole(a, 0), whole(a, 1));
            case "setBar": return player.setBar(whole(a, 0), whole(a, 1), whole(a, 2));
            case "removeBar": return player.removeBar(whole(a, 0));
            case "mark": return player.mark(whole(a, 0), whole(a, 1), a[2] == 1);
            case "removeMark": return player.removeMark(whole(a, 0));
            case "cue": return player.cue(whole(a, 0), whole(a, 1), whole(a, 2));
            case "removeCue": return player.removeCue(whole(a, 0));
            case "load": return player.load();
            case "undo": return player.undo();
            case "keep": return player.keep(whole(a, 0));
            case "back": return player.back(whole(a, 0));
            case "append": return player.append(whole(a, 0));
            case "clearInput": return player.clearInput();
            case "firstError": return player.firstError();
            case "start": return player.start(whole(a, 0), whole(a, 1), whole(a, 2));
            case "advance": return player.advance(whole(a, 0));
            case "stop": return player.stop();
            default: return look(player, name, a);
        }
    }

    private static long look(TempoPlayer player, String name, long[] a) {
        switch (name) {
            case "playing": return player.playing(whole(a, 0));
            case "bar": return player.bar(whole(a, 0), whole(a, 1));
            case "beat": return player.beat(whole(a, 0), whole(a, 1));
            case "click": return player.click(whole(a, 0), whole(a, 1));
            case "tempo": return player.tempo(whole(a, 0), whole(a, 1));
            case "cueAt": return player.cueAt(whole(a, 0), whole(a, 1));
            case "at": return player.at(a[0], whole(a, 1));
            case "count": return player.count(whole(a, 0));
            case "bestSpeed": return player.bestSpeed(whole(a, 0), a[1]);
            case "rubberFor": return player.rubberFor(whole(a, 0), a[1]);
            case "ifMark": return player.ifMark(whole(a, 0), whole(a, 1), whole(a, 2));
            case "meanTempo": return Double.doubleToLongBits(player.meanTempo());
            case "digest": return player.digest();
            default: throw new AssertionError("no call " + name);
        }
    }

    private static int whole(long[] a, int index) {
        if (a[index] != (int) a[index]) {
            throw new AssertionError(a[index] + " is no int");
        }
        return (int) a[index];
    }

    static boolean takesLong(String name, int argument) {
        return name.equals("at") && argument == 0
            || (name.equals("bestSpeed") || name.equals("rubberFor")) && argument == 1;
    }
}
