/** Puts all that an object tells about its state into one text, to compare states. */
final class Everything {
    private Everything() {
    }

    /** All but the pad and the history. */
    static String withoutPadAndHistory(ClerkVotes x) {
        StringBuilder text = new StringBuilder();
        for (int what = 0; what <= 13; what++) {
            if (what != 5 && what != 6) {
                text.append(" count").append(what).append('=').append(x.count(what));
            }
        }
        for (int deal = 0; deal < x.count(1); deal++) {
            for (int what = 0; what <= 8; what++) {
                text.append(" deal").append(deal).append('.').append(what).append('=').append(x.ofDeal(deal, what));
            }
            for (int clerk = 0; clerk < 4; clerk++) {
                text.append(" at").append(clerk).append('=').append(x.at(deal, clerk));
            }
        }
        for (int place = 0; place < x.count(2); place++) {
            text.append(" message").append(place).append('=').append(message(x, place));
        }
        for (int who = 0; who <= 4; who++) {
            for (int what = 0; what <= 4; what++) {
                text.append(" who").append(who).append('.').append(what).append('=').append(x.who(who, what));
            }
        }
        return text.toString();
    }

    static String of(ClerkVotes x) {
        return withoutPadAndHistory(x) + " pad=" + x.count(5) + " fault=" + x.fault() + " undoable=" + x.count(6);
    }

    /** A message as four digits: its kind, its deal, from whom, to whom. */
    static int message(ClerkVotes x, int place) {
        return x.message(place, 0) * 1000 + x.message(place, 1) * 100 + x.message(place, 2) * 10 + x.message(place, 3);
    }

    /** The row as a text: kind, deal, from and to of each message. */
    static String row(ClerkVotes x) {
        StringBuilder text = new StringBuilder();
        for (int place = 0; place < x.count(2); place++) {
            for (int what = 0; what < 4; what++) {
                text.append(x.message(place, what));
            }
            text.append(place + 1 < x.count(2) ? " " : "");
        }
        return text.toString();
    }

    /** Puts a text on the pad, up to eight characters a call; returns what the last call answered. */
    static int put(ClerkVotes x, String text) {
        int answer = x.count(5);
        for (int start = 0; start < text.length(); start += 8) {
            answer = x.put(packed(text.substring(start, Math.min(start + 8, text.length()))));
        }
        return answer;
    }

    static long packed(String text) {
        long packed = 0;
        for (int i = 0; i < text.length(); i++) {
            packed = packed << 8 | text.charAt(i);
        }
        return packed;
    }
}
