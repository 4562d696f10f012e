import java.util.ArrayList;
import java.util.Comparator;
import java.util.List;
import java.util.TreeMap;

/** The document's words told a second time, without a thought of speed or room. */
final class Model {
    record News(int node, int status, int incarnation) {
    }

    record Flying(int kind, int from, int to, int origin, int target, int number, List<News> news) {
    }

    record View(int status, int incarnation) {
    }

    record Probe(int target, int number, boolean answered) {
    }

    static final class Held {
        final News news;
        int sent = 0;

        Held(News news) {
            this.news = news;
        }
    }

    static final class Member {
        boolean up = true;
        int own = 0;
        int lastTarget;
        int latest = 0;
        Probe probe = null;
        final TreeMap<Integer, View> views = new TreeMap<>();
        final TreeMap<Integer, Integer> timers = new TreeMap<>();
        final TreeMap<Integer, Held> buffer = new TreeMap<>();
    }

    final int n;
    final List<Member> members = new ArrayList<>();
    final List<Flying> row = new ArrayList<>();

    Model(int n) {
        this.n = n >= 2 && n <= 6 ? n : 4;
        for (int a = 0; a < this.n; a++) {
            Member member = new Member();
            member.lastTarget = a;
            for (int m = 0; m < this.n; m++) {
                if (m != a) {
                    member.views.put(m, new View(0, 0));
                    member.timers.put(m, 0);
                }
            }
            members.add(member);
        }
    }

    boolean node(int a) {
        return 0 <= a && a < n;
    }

    boolean isUp(int a) {
        return node(a) && members.get(a).up;
    }

    void announce(int a, News news) {
        members.get(a).buffer.put(news.node(), new Held(news));
    }

    void setView(int a, int m, int status, int incarnation) {
        members.get(a).views.put(m, new View(status, incarnation));
        members.get(a).timers.put(m, 0);
        announce(a, new News(m, status, incarnation));
    }

    void send(int kind, int from, int to, int origin, int target, int number) {
        TreeMap<Integer, Held> buffer = members.get(from).buffer;
        List<Held> order = new ArrayList<>(buffer.values());
        order.sort(Comparator.<Held>comparingInt(h -> h.sent).thenComparingInt(h -> h.news.node()));
        List<News> picked = new ArrayList<>();
        for (Held held : order.subList(0, Math.min(2, order.size()))) {
            picked.add(held.news);
            held.sent++;
            if (held.sent == 6) {
                buffer.remove(held.news.node());
            }
        }
        if (row.size() < 24) {
            row.add(new Flying(kind, from, to, origin, target, number, picked));
        }
    }

    int period(int a) {
        if (!isUp(a)) {
            return -1;
        }
        Member me = members.get(a);
        for (int m = 0; m < n; m++) {
            if (m != a && me.views.get(m).status() == 1) {
                me.timers.merge(m, 1, Integer::sum);
                if (me.timers.get(m) == 3) {
                    setView(a, m, 2, me.views.get(m).incarnation());
                }
            }
        }
        if (me.probe != null && !me.probe.answered()) {
            View view = me.views.get(me.probe.target());
            if (view.status() == 0) {
                setView(a, me.probe.target(), 1, view.incarnation());
            }
        }
        int last = me.lastTarget;
        me.probe = null;
        for (int step = 1; step <= n; step++) {
            int m = (last + step) % n;
            if (m != a && me.views.get(m).status() != 2) {
                me.lastTarget = m;
                me.latest++;
                me.probe = new Probe(m, me.latest, false);
                send(1, a, m, a, m, me.latest);
                return m;
            }
        }
        return -1;
    }

    int help(int a) {
        if (!isUp(a) || members.get(a).probe == null || members.get(a).probe.answered()) {
            return -1;
        }
        Member me = members.get(a);
        int asked = 0;
        for (int step = 1; step <= n && asked < 2; step++) {
            int m = (me.probe.target() + step) % n;
            if (m != a && m != me.probe.target() && me.views.get(m).status() != 2) {
                send(3, a, m, a, me.probe.target(), me.probe.number());
                asked++;
            }
        }
        return asked;
    }

    boolean newer(News news, View view) {
        switch (news.status()) {
            case 0:
                return view.status() != 2 && news.incarnation() > view.incarnation();
            case 1:
                return view.status() == 0 && news.incarnation() >= view.incarnation()
                        || view.status() == 1 && news.incarnation() > view.incarnation();
            default:
                return view.status() != 2;
        }
    }

    void hear(int b, News news) {
        Member me = members.get(b);
        if (news.node() == b) {
            if (news.status() != 0 && news.incarnation() >= me.own) {
                me.own = news.incarnation() + 1;
                announce(b, new News(b, 0, me.own));
            }
        } else if (newer(news, me.views.get(news.node()))) {
            setView(b, news.node(), news.status(), news.incarnation());
        }
    }

    int deliver(int k) {
        if (k < 0 || k >= row.size()) {
            return -1;
        }
        Flying f = row.remove(k);
        int b = f.to();
        if (!members.get(b).up) {
            return f.kind();
        }
        for (News news : f.news()) {
            hear(b, news);
        }
        if (f.kind() == 1) {
            send(2, b, f.from(), f.origin(), f.target(), f.number());
        } else if (f.kind() == 3) {
            send(1, b, f.target(), f.origin(), f.target(), f.number());
        } else if (b != f.origin()) {
            send(2, b, f.origin(), f.origin(), f.target(), f.number());
        } else {
            Probe probe = members.get(b).probe;
            if (probe != null && probe.number() == f.number()) {
                members.get(b).probe = new Probe(probe.target(), probe.number(), true);
            }
        }
        return f.kind();
    }

    boolean lose(int k) {
        if (k < 0 || k >= row.size()) {
            return false;
        }
        row.remove(k);
        return true;
    }

    int round() {
        int arrived = 0;
        for (int a = 0; a < n; a++) {
            period(a);
        }
        while (!row.isEmpty()) {
            deliver(0);
            arrived++;
        }
        for (int a = 0; a < n; a++) {
            help(a);
        }
        while (!row.isEmpty()) {
            deliver(0);
            arrived++;
        }
        return arrived;
    }

    boolean stop(int a) {
        boolean was = isUp(a);
        if (was) {
            members.get(a).up = false;
        }
        return was;
    }

    int status(int a, int m) {
        return !node(a) || !node(m) ? -1 : a == m ? 0 : members.get(a).views.get(m).status();
    }

    int incarnation(int a, int m) {
        if (!node(a) || !node(m)) {
            return -1;
        }
        return a == m ? members.get(a).own : members.get(a).views.get(m).incarnation();
    }

    int timer(int a, int m) {
        return !node(a) || !node(m) || a == m ? 0 : members.get(a).timers.get(m);
    }

    int probe(int a) {
        Probe probe = node(a) ? members.get(a).probe : null;
        return probe == null ? -1 : probe.answered() ? probe.target() + 8 : probe.target();
    }

    int sent(int a, int m) {
        Held held = node(a) ? members.get(a).buffer.get(m) : null;
        return held == null ? -1 : held.sent;
    }

    int message(int k) {
        if (k < 0 || k >= row.size()) {
            return -1;
        }
        Flying f = row.get(k);
        return f.kind() * 4096 + f.from() * 512 + f.to() * 64 + f.target() * 8 + f.news().size();
    }

    long news(int k, int j) {
        if (k < 0 || k >= row.size() || j < 0 || j >= row.get(k).news().size()) {
            return -1;
        }
        News news = row.get(k).news().get(j);
        return news.node() * 4L + news.status() + news.incarnation() * 64L;
    }

    int declared(int m) {
        int count = 0;
        for (int a = 0; a < n; a++) {
            count += isUp(a) && status(a, m) == 2 ? 1 : 0;
        }
        return node(m) ? count : -1;
    }

    int doubted() {
        int count = 0;
        for (int a = 0; a < n; a++) {
            for (int m = 0; m < n; m++) {
                count += isUp(a) && isUp(m) && status(a, m) != 0 ? 1 : 0;
            }
        }
        return count;
    }
}
