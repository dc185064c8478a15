import java.util.ArrayList;
import java.util.List;

/** PLANS and orders of the second bench: each PLAN is carried out on a copy of STOCK and of the told ones. */
final class SecondPlans {
    private final SecondShop shop;
    private final SecondShop trial = new SecondShop();
    int most = Due.LEAST;
    List<Integer> best = List.of();
    int least = Due.MOST;
    List<Integer> first = List.of();

    SecondPlans(SecondShop shop) {
        this.shop = shop;
        trial.day = shop.day;
        trial.models = shop.models;
        trial.common = shop.common;
        trial.texts = shop.texts;
    }

    void find() {
        goOn(new ArrayList<>());
    }

    private void goOn(List<Integer> plan) {
        if (plan.size() == shop.told.size()) {
            int had = carriedOut(plan);
            if (had > most) {
                most = had;
                best = List.copyOf(plan);
            }
            return;
        }
        SecondPhone p = shop.phones.get(shop.told.get(plan.size()));
        int ways = p.state == SecondPhone.State.IN ? 3 : 1;
        for (int way = 0; way < ways; way++) {
            plan.add(way);
            goOn(plan);
            plan.remove(plan.size() - 1);
        }
    }

    /** What is had; the least number of all, if the PLAN can't be. */
    private int carriedOut(List<Integer> plan) {
        trial.till = 0;
        trial.stock.clear();
        for (int[] row : shop.stock) {
            trial.stock.add(row.clone());
        }
        for (int i = 0; i < plan.size(); i++) {
            if (plan.get(i) == 2) {
                trial.strips(shop.phones.get(shop.told.get(i)).copy());
            }
        }
        int worth = 0;
        for (int number = 0; number < shop.phones.size(); number++) {
            int place = shop.told.indexOf(number);
            if (place >= 0 && plan.get(place) == 1) {
                SecondPhone p = shop.phones.get(number).copy();
                if (!trial.mends(p)) {
                    return Due.LEAST;
                }
                worth += trial.worth(p);
            }
        }
        return trial.till + worth;
    }

    void findOrder() {
        goOnWith(new ArrayList<>(), 0, 0);
    }

    /** What is late already stays late: such an order is not gone on with. */
    private void goOnWith(List<Integer> order, int minute, int late) {
        if (late >= least) {
            return;
        }
        if (order.size() == shop.told.size()) {
            least = late;
            first = List.copyOf(order);
            return;
        }
        for (int phone : shop.told) {
            if (order.contains(phone)) {
                continue;
            }
            SecondPhone p = shop.phones.get(phone);
            int ends = minute + p.as().harm(p);
            order.add(phone);
            goOnWith(order, ends, late + Math.max(0, ends - p.promise));
            order.remove(order.size() - 1);
        }
    }
}
