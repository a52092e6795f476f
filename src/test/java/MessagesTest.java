/** Promise 5: what each kind of message does to whom it is delivered. */
public final class MessagesTest {
    private static final Checks checks = new Checks();

    public static void main(String[] args) {
        ask();
        yesOfAll();
        yesLater();
        no();
        posts();
        tears();
        tearsTwice();
        got();
        whatToTheBetween();
        whatToElders();
        toTheIll();
        fullRow();
        checks.end();
    }

    private static void row(ClerkVotes x, String want) {
        checks.holds("the row is " + want + ", but it is " + Everything.row(x), Everything.row(x).equals(want));
    }

    /** Deal 0 of clerks 0 and 1, POST for the go-between, READY for both; POSTS to both is on its way. */
    private static ClerkVotes voted() {
        ClerkVotes x = new ClerkVotes();
        x.open(3);
        for (int i = 0; i < 4; i++) {
            x.deliver(0);
        }
        return x;
    }

    private static void ask() {
        checks.about("ASK");
        ClerkVotes x = new ClerkVotes();
        x.willing(1, 0);
        x.open(3);
        for (int i = 0; i < 6; i++) {
            x.twice(i % 2);
        }
        checks.due("deliver(0)", x.deliver(0), 8);
        checks.due("willing: READY", x.at(0, 0), 1);
        checks.due("message", Everything.message(x, 7), 1004);
        x.deliver(0);
        checks.due("not willing: TORN", x.at(0, 1), 3);
        checks.due("message", Everything.message(x, 7), 2014);
        // Asked again, they answer as before, whether they are willing now or not.
        x.willing(0, 0);
        x.willing(1, 1);
        x.deliver(0);
        checks.due("READY still", x.at(0, 0), 1);
        checks.due("message", Everything.message(x, 7), 1004);
        x.deliver(0);
        checks.due("TORN still", x.at(0, 1), 3);
        checks.due("message", Everything.message(x, 7), 2014);

        ClerkVotes y = new ClerkVotes();
        y.open(1);
        y.twice(0);
        y.deliver(0);
        y.deliver(1);
        y.deliver(1);
        checks.due("POSTED", y.at(0, 0), 2);
        row(y, "0040 5004");
        y.deliver(0);
        row(y, "5004");
        checks.due("POSTED still", y.at(0, 0), 2);
        checks.due("delivered", y.count(3), 4);
    }

    private static void yesOfAll() {
        checks.about("YES");
        ClerkVotes x = new ClerkVotes();
        x.open(13);
        x.deliver(2);
        x.deliver(0);
        x.deliver(0);
        row(x, "1034 1004 1024");
        x.twice(0);
        x.deliver(0);
        checks.due("votes", x.ofDeal(0, 3), 8);
        checks.due("ASKING", x.ofDeal(0, 1), 0);
        x.deliver(2);
        checks.due("votes, the same once more", x.ofDeal(0, 3), 8);
        row(x, "1004 1024");
        x.ticks(2);
        x.deliver(1);
        x.deliver(0);
        checks.due("votes", x.ofDeal(0, 3), 13);
        checks.due("POST", x.ofDeal(0, 1), 1);
        row(x, "3040 3042 3043");
        checks.due("sent by the go-between", x.who(4, 4), 6);
        checks.due("delivered to the go-between", x.who(4, 3), 4);
    }

    private static void yesLater() {
        checks.about("YES, later");
        ClerkVotes x = new ClerkVotes();
        x.open(3);
        x.deliver(0);
        x.deliver(0);
        x.twice(1);
        x.twice(1);
        x.twice(1);
        x.deliver(0);
        x.deliver(0);
        checks.due("POST", x.ofDeal(0, 1), 1);
        row(x, "1014 1014 1014 3040 3041");
        x.deliver(0);
        row(x, "1014 1014 3040 3041 3041");
        x.deliver(2);
        x.deliver(2);
        x.deliver(3);
        x.deliver(3);
        checks.due("DONE", x.ofDeal(0, 1), 3);
        row(x, "1014 1014 3041");
        x.lose(2);
        x.deliver(0);
        row(x, "1014 3041");
        x.open(12);
        x.deliver(2);
        x.fall(4);
        x.rise(4);
        row(x, "1014 3041 0143 1124");
        x.deliver(3);
        row(x, "1014 3041 0143 4142");
        checks.due("no vote", x.ofDeal(1, 3), 0);
        checks.due("TEAR", x.ofDeal(1, 1), 2);
    }

    private static void no() {
        checks.about("NO");
        ClerkVotes x = new ClerkVotes();
        x.willing(2, 0);
        x.open(15);
        x.deliver(2);
        x.twice(3);
        row(x, "0040 0041 0043 2024 2024");
        x.deliver(3);
        checks.due("TEAR", x.ofDeal(0, 1), 2);
        row(x, "0040 0041 0043 2024 4040 4041 4043");
        checks.due("votes", x.ofDeal(0, 3), 0);
        x.deliver(3);
        row(x, "0040 0041 0043 4040 4041 4043");
        checks.due("TEAR still", x.ofDeal(0, 1), 2);
    }

    private static void posts() {
        checks.about("POSTS");
        ClerkVotes x = voted();
        row(x, "3040 3041");
        x.twice(1);
        x.deliver(0);
        checks.due("POSTED", x.at(0, 0), 2);
        checks.due("READY", x.at(0, 1), 1);
        row(x, "3041 3041 5004");
        x.deliver(1);
        row(x, "3041 5004 5014");
        x.deliver(0);
        checks.due("POSTED", x.at(0, 1), 2);
        row(x, "5004 5014 5014");
    }

    private static void tearsTwice() {
        checks.about("TEARS for TORN");
        ClerkVotes x = new ClerkVotes();
        x.open(1);
        x.deliver(0);
        x.fall(4);
        x.rise(4);
        x.deliver(0);
        row(x, "4040");
        x.twice(0);
        x.deliver(0);
        checks.due("TORN", x.at(0, 0), 3);
        x.deliver(0);
        checks.due("TORN still", x.at(0, 0), 3);
        row(x, "");
    }

    private static void tears() {
        checks.about("TEARS");
        ClerkVotes x = new ClerkVotes();
        x.willing(0, 0);
        x.open(7);
        x.deliver(0);
        x.deliver(0);
        row(x, "0042 2004 1014");
        x.deliver(1);
        row(x, "0042 1014 4041 4042");
        x.deliver(3);
        checks.due("NEW becomes TORN", x.at(0, 2), 3);
        x.deliver(2);
        checks.due("READY becomes TORN", x.at(0, 1), 3);
        row(x, "0042 1014");
        checks.due("sent by clerk 1", x.who(1, 4), 1);
        x.deliver(0);
        row(x, "1014 2024");
    }

    private static void got() {
        checks.about("GOT");
        ClerkVotes x = voted();
        x.deliver(0);
        x.deliver(0);
        x.twice(0);
        row(x, "5004 5014 5004");
        x.deliver(0);
        checks.due("receipts", x.ofDeal(0, 4), 1);
        checks.due("POST", x.ofDeal(0, 1), 1);
        x.deliver(1);
        checks.due("receipts, the same once more", x.ofDeal(0, 4), 1);
        checks.due("POST", x.ofDeal(0, 1), 1);
        x.twice(0);
        x.deliver(0);
        checks.due("receipts", x.ofDeal(0, 4), 3);
        checks.due("DONE", x.ofDeal(0, 1), 3);
        x.deliver(0);
        checks.due("DONE still", x.ofDeal(0, 1), 3);
        row(x, "");
        x.fall(4);
        checks.due("DONE, receipts are not forgotten", x.ofDeal(0, 4), 3);
        checks.due("DONE, the go-between ill", x.ofDeal(0, 1), 3);
    }

    private static void whatToTheBetween() {
        checks.about("WHAT, to the go-between");
        ClerkVotes x = new ClerkVotes();
        x.set(0, 50);
        x.set(1, 1);
        x.open(3);
        x.deliver(0);
        x.ticks(3);
        row(x, "0041 1004 6004 6004");
        x.deliver(2);
        row(x, "0041 1004 6004");
        x.deliver(0);
        x.deliver(0);
        x.deliver(1);
        checks.due("POST", x.ofDeal(0, 1), 1);
        row(x, "6004 3040 3041");
        x.twice(0);
        x.deliver(0);
        row(x, "3040 3041 6004 3040");
        x.deliver(0);
        x.deliver(0);
        x.deliver(2);
        x.deliver(2);
        checks.due("DONE", x.ofDeal(0, 1), 3);
        row(x, "6004 3040");
        x.deliver(0);
        row(x, "3040 3040");

        ClerkVotes y = new ClerkVotes();
        y.set(1, 1);
        y.open(3);
        y.deliver(1);
        y.ticks(3);
        y.fall(4);
        y.rise(4);
        row(y, "0040 1014 6014 6014");
        y.deliver(2);
        row(y, "0040 1014 6014 4041");
    }

    private static void whatToElders() {
        checks.about("WHAT, to a clerk");
        // Clerk 0 is in doubt and asks 1 (READY), 2 (NEW) and 3 (TORN).
        ClerkVotes x = new ClerkVotes();
        x.set(0, 50);
        x.set(1, 1);
        x.set(3, 1);
        x.willing(3, 0);
        x.open(15);
        x.deliver(0);
        x.ticks(2);
        x.deliver(0);
        x.deliver(1);
        row(x, "0042 1004 6004 6001 6002 6003 1014 2034");
        x.deliver(3);
        checks.due("READY stays", x.at(0, 1), 1);
        row(x, "0042 1004 6004 6002 6003 1014 2034");
        x.deliver(3);
        checks.due("NEW becomes TORN", x.at(0, 2), 3);
        row(x, "0042 1004 6004 6003 1014 2034 4020");
        x.deliver(3);
        checks.due("TORN stays", x.at(0, 3), 3);
        row(x, "0042 1004 6004 1014 2034 4020 4030");
        checks.due("sent by clerk 2", x.who(2, 4), 1);
        x.deliver(5);
        checks.due("who asked tears it up", x.at(0, 0), 3);

        // Clerk 1 asks 0, for whom it is POSTED; POSTS of a clerk posts, and GOT goes to the go-between.
        ClerkVotes y = voted();
        y.set(3, 1);
        y.deliver(0);
        y.lose(0);
        y.ticks(5);
        row(y, "5004 6014 6010");
        y.deliver(2);
        row(y, "5004 6014 3001");
        y.deliver(2);
        checks.due("POSTED", y.at(0, 1), 2);
        row(y, "5004 6014 5014");
    }

    private static void toTheIll() {
        checks.about("to the ill");
        ClerkVotes x = new ClerkVotes();
        x.open(3);
        x.fall(0);
        checks.due("deliver(0)", x.deliver(0), 1);
        checks.due("lost", x.count(4), 1);
        checks.due("delivered", x.count(3), 0);
        checks.due("delivered to clerk 0", x.who(0, 3), 0);
        row(x, "0041");
        x.deliver(0);
        x.fall(4);
        checks.due("deliver(0)", x.deliver(0), 0);
        checks.due("lost", x.count(4), 2);
        checks.due("votes", x.ofDeal(0, 3), 0);
        checks.due("delivered", x.count(3), 1);
        // What an ill one had sent is on its way still.
        ClerkVotes y = new ClerkVotes();
        y.open(1);
        y.deliver(0);
        y.fall(0);
        checks.due("deliver(0)", y.deliver(0), 1);
        checks.due("POST", y.ofDeal(0, 1), 1);
        checks.due("deliver(0)", y.deliver(0), 0);
        checks.due("READY still", y.at(0, 0), 1);
    }

    private static void fullRow() {
        checks.about("60 messages");
        // At 60 a YES is delivered that makes four POSTS: one has room, three are lost at once.
        ClerkVotes x = new ClerkVotes();
        x.open(15);
        for (int i = 0; i < 7; i++) {
            x.deliver(0);
        }
        row(x, "1034");
        x.open(1);
        for (int i = 2; i < 60; i++) {
            x.twice(1);
        }
        checks.due("messages", x.count(2), 60);
        checks.due("deliver(0)", x.deliver(0), 60);
        checks.due("message", Everything.message(x, 59), 3040);
        checks.due("lost", x.count(4), 3);
        checks.due("sent by the go-between", x.who(4, 4), 9);
        checks.due("POST", x.ofDeal(0, 1), 1);
    }
}
