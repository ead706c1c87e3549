/** The program that README.md shows; ReadmeTest holds the two together. */
public final class Example {
    public static void main(String[] args) {
        SecondTry town = new SecondTry();
        town.kind(0, 2, 3, 0);                       // kind 0: 2 hours, marks 1 and 2, needs nothing
        town.kind(1, 3, 1, 1);                       // kind 1: 3 hours, mark 1, needs kind 0
        town.person(0, 50);
        town.person(1, 10);

        say("a first try", town.tries(0, 0, SecondTry.NONE));
        say("a second one", town.tries(0, 0, SecondTry.NONE));

        // one try is void, two for person 1; deeds with a mark in common are alike; a first go costs 7
        feed(town, "v2(p=1);v1(0=0);a(m>0);c7(0=0)");
        say("clauses of the law", town.law(30));
        say("kind 1 finds kind 0 alike", town.alike(1, 0));
        say("kind 1 at once, by alike ones", town.tries(0, 1, SecondTry.NONE));

        feed(town, "(0)3,1");
        say("steps of a plan", town.plan(1, 6));
        say("days tried: that count", town.tried(1, 1));
        say("days that go by: that counted", town.days(1));

        say("soonest hours for person 1", town.soonest(1, 3, 1, 0, 0));
        say("a first go bought for", town.buys(1, 1, 0));
        say("coins of person 1", town.count(71));

        feed(town, "1,");
        say("a fault: the end at place 2", town.plan(1, 2));
        say("nobody has number 5", town.has(5, 0, 0));
    }

    /** Twenty bytes a call, the highest of each int first; what is left of the last call is blanks. */
    private static void feed(SecondTry town, String text) {
        for (int at = 0; at < text.length(); at += 20) {
            int[] words = new int[5];
            for (int i = 0; i < 20; i++) {
                int sign = at + i < text.length() ? text.charAt(at + i) : ' ';
                words[i / 4] = words[i / 4] << 8 | sign;
            }
            town.feed(words[0], words[1], words[2], words[3], words[4]);
        }
    }

    private static void say(String what, int answer) {
        System.out.println(what + ": " + answer);
    }
}
