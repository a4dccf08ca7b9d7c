/** Promise 3: HEADERS without DONE are followed by MORE of their stream, and MORE comes nowhere else. */
public final class OrderTest {
    public static void main(String[] args) {
        for (int type = 0; type < 12; type++) {
            Talk talk = Talk.begun();
            talk.frame(Talk.HEADERS, Talk.END, 1, 129);
            Check.same("HEADERS without DONE", talk.told(), "");
            talk.frame(type, 0, type == Talk.SETTINGS || type == Talk.PING ? 0 : 1);
            Check.same("type " + type + " behind HEADERS", talk.server.away(), type == Talk.MORE ? 0 : 1);
        }
        Talk other = Talk.begun();
        other.frame(Talk.HEADERS, Talk.END, 1, 129).frame(Talk.MORE, 4, 3, 131);
        Check.same("MORE of another stream", other.told(), "AWAY 0 of 0: 0 1");

        Talk behindMore = Talk.begun();
        behindMore.frame(Talk.HEADERS, Talk.END, 1, 129).frame(Talk.MORE, 0, 1).frame(Talk.PING, 0, 0, 1, 2, 3, 4);
        Check.same("PING behind MORE", behindMore.told(), "AWAY 0 of 0: 0 1");

        Talk alone = Talk.begun();
        alone.frame(Talk.MORE, 4, 1, 129);
        Check.same("MORE alone", alone.told(), "AWAY 0 of 0: 0 1");

        Talk behindDone = Talk.begun();
        behindDone.ask(1, Talk.GET, Talk.ROOT).frame(Talk.MORE, 4, 1);
        Check.same("MORE behind DONE", behindDone.told(), "HEADERS 5 of 1: 135; AWAY 0 of 0: 1 1");

        Talk whole = Talk.begun();
        whole.frame(Talk.HEADERS, Talk.END, 1, 129).frame(Talk.MORE, 0, 1).frame(Talk.MORE, 4, 1, 131);
        Check.same("the pieces are one block", whole.told(), "HEADERS 5 of 1: 135");
        whole.frame(Talk.PING, 0, 0, 1, 2, 3, 4);
        Check.same("then all types come", whole.told(), "PING 1 of 0: 1 2 3 4");

        Talk more = Talk.begun();
        more.frame(Talk.HEADERS, 0, 1, 129).frame(Talk.MORE, 4 + Talk.END, 1, 131);
        Check.same("END of MORE is not used", more.told(), "");
        Check.same("the client's side is open", more.server.stream(1, 3), 0);

        Talk padded = Talk.begun();
        padded.frame(Talk.HEADERS, Talk.END, 1, 129).frame(Talk.MORE, 4 + Talk.PADDED, 1, 131);
        Check.same("PADDED of MORE is not used", padded.told(), "HEADERS 5 of 1: 135");
        Check.end();
    }
}
