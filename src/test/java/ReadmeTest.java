import java.io.IOException;
import java.lang.reflect.Method;
import java.lang.reflect.Modifier;
import java.nio.file.Files;
import java.nio.file.Path;
import java.util.List;

/** README.md: its calls answer what it says, and it tells of every method. Runs in the project's directory. */
public final class ReadmeTest {
    private static int shown = 0;

    public static void main(String[] args) throws IOException {
        List<String> readme = Files.readAllLines(Path.of("README.md"));
        callsAnswerWhatStandsBesideThem(readme);
        everyMethodStandsInTheTable(readme);
        Check.end();
    }

    private static void callsAnswerWhatStandsBesideThem(List<String> readme) {
        MarginHouse house = new MarginHouse();
        int buyer = house.member(400);
        int seller = house.member(500);
        int wheat = house.instrument(100, 50, 7);
        house.capital(250);
        house.move(0, wheat, -10);
        house.bid(seller, wheat, 2);
        house.deposit(buyer, 5000);
        house.deposit(seller, 3000);
        for (String line : List.of("house = new MarginHouse();", "buyer = house.member(400);",
                "seller = house.member(500);", "wheat = house.instrument(100, 50, 7);", "house.capital(250);",
                "house.move(0, wheat, -10);", "house.bid(seller, wheat, 2);", "house.deposit(buyer, 5000);",
                "house.deposit(seller, 3000);")) {
            stands(readme, line);
        }
        answers(readme, "house.trade(buyer, seller, wheat, 60, 95)", house.trade(buyer, seller, wheat, 60, 95));
        answers(readme, "house.margin(buyer)", house.margin(buyer));
        answers(readme, "house.withdraw(buyer, 4631)", house.withdraw(buyer, 4631));
        answers(readme, "house.mark(wheat, 0)", house.mark(wheat, 0));
        answers(readme, "house.called(buyer)", house.called(buyer));
        answers(readme, "house.declare()", house.declare());
        answers(readme, "house.closeOut(buyer)", house.closeOut(buyer));
        answers(readme, "house.bore(0)", house.bore(0));
        answers(readme, "house.bore(1)", house.bore(1));
        answers(readme, "house.bore(2)", house.bore(2));
        answers(readme, "house.told(buyer, 0)", house.told(buyer, 0));
        answers(readme, "house.position(seller, wheat)", house.position(seller, wheat));
        long calls = readme.stream().filter(line -> line.matches("(\\w+ \\w+ = )?(house\\.|new ).*;.*")).count();
        Check.answers("calls that README.md shows", calls, shown);
    }

    private static void everyMethodStandsInTheTable(List<String> readme) {
        for (Method method : MarginHouse.class.getDeclaredMethods()) {
            if (Modifier.isPublic(method.getModifiers())) {
                String row = "| `" + method.getName() + "(";
                Check.answers("rows of the table for " + method.getName(), 1,
                        readme.stream().filter(line -> line.startsWith(row)).count());
            }
        }
    }

    private static void stands(List<String> readme, String text) {
        shown++;
        Check.holds("README.md does not show " + text, readme.stream().anyMatch(line -> line.contains(text)));
    }

    private static void answers(List<String> readme, String call, long got) {
        shown++;
        Check.holds("README.md does not say that " + call + " answers " + got, readme.stream()
                .anyMatch(line -> line.startsWith(call + ";") && line.contains("// " + got + ":")));
    }
}
