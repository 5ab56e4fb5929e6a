/**
 * What can be asked of a bench without changing it, as one text: calls that do nothing leave it as
 * it was. Meant for small scenes, as a bench is promised for 512 calls alone.
 */
final class Readout {
    private Readout() {
    }

    static String of(PlanningBench x) {
        StringBuilder text = new StringBuilder("counts");
        for (int what = 0; what <= 6; what++) {
            add(text, x.count(what));
        }
        text.append(" fault");
        add(text, x.fault());
        int[] days = {0, x.count(0), 9999};
        addPlots(text, x, days);
        addPlans(text, x, days);
        addApplications(text, x, days);
        return text.toString();
    }

    private static void addPlots(StringBuilder text, PlanningBench x, int[] days) {
        int plots = x.count(1);
        for (int plot = 0; plot < plots; plot++) {
            text.append(" plot");
            int corners = x.ring(plot, 0);
            for (int what = 0; what < 2 + 2 * corners; what++) {
                add(text, x.ring(plot, what));
            }
            for (int day : days) {
                add(text, x.holder(plot, day, 9999));
                add(text, x.holder(plot, 9999, day));
            }
        }
    }

    private static void addPlans(StringBuilder text, PlanningBench x, int[] days) {
        text.append(" plans");
        for (int day : days) {
            add(text, x.plan(day, 9999));
            add(text, x.plan(9999, day));
        }
        int plans = x.count(2);
        int plots = x.count(1);
        for (int plan = 0; plan < plans; plan++) {
            for (int plot = 0; plot < plots; plot++) {
                add(text, x.zone(plan, plot, 0));
                add(text, x.zone(plan, plot, 1));
                add(text, x.zone(plan, plot, 10));
            }
        }
    }

    private static void addApplications(StringBuilder text, PlanningBench x, int[] days) {
        int applications = x.count(3);
        for (int application = 0; application < applications; application++) {
            text.append(" application");
            for (int what = 0; what <= 9; what++) {
                add(text, x.told(application, what));
            }
            for (int day : days) {
                add(text, x.stands(application, day, 9999) ? 1 : 0);
                add(text, x.stands(application, 9999, day) ? 1 : 0);
            }
        }
    }

    private static void add(StringBuilder text, int answer) {
        text.append(' ').append(answer);
    }
}
