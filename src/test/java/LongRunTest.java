/**
 * Runs of 512 calls on a full land, some of them up to hour 2400: crews that follow what nextField says, break
 * and are mended, trucks at one place, rain and nights between. What is due was computed by a second model,
 * written from the document alone, so that these numbers do not stem from the class.
 */
final class LongRunTest {
    private static final int CALLS = 512;
    private static final int BETWEEN_LOOKS = 64;
    private static final int LAST_HOUR = 2400;
    private static final int LONGEST_PASS = 48;

    /** For each run a fold of all answers so far, at every 64th call. */
    private static final long[][] DUE = {
        {-1785023478814754491L, 6455514790538680664L, 944778836855696098L, -8454709405235486167L,
            6376254678614162323L, -8441152470287481237L, 2505974106547768201L, 446047011050890973L},
        {-1944596334724736440L, 2997734719783057401L, 2758524908128550151L, -273044230297670035L,
            -8501859482803506552L, -383891114397666533L, 8452939354795784393L, -2847090504350702803L},
        {-94836076682614068L, 1406187023584452441L, 8942055838148818317L, 5666402598942275740L,
            8759347324634850768L, -7138157662361734748L, 7940933804767752369L, -8670172700248842170L},
        {6362297162409299416L, 4528595036968364438L, -2408170470702350271L, 1424052272002464266L,
            3212703965956751825L, 6555639519719011800L, -6317157186802501195L, 5053035678245694238L},
        {8339016475702923762L, -8361394173046963374L, -6128265111114154138L, -1191593784380841166L,
            3410312640088036874L, -816105363315655213L, -6636293807940014853L, -4057968426184921344L},
        {7270626801501116865L, 8122039457375395338L, 8156232255849436825L, -5098940992220087499L,
            -1007406364456425897L, 6018259236219613553L, 5392797996849099224L, 2710038353232892333L},
        {5790928129058582316L, -5623684242328248463L, -8262506736598461259L, 7738102619058979408L,
            4232481563020161949L, 2955359505621676831L, 3866963303038036960L, -434997972291005379L},
        {-539346616710822151L, -5366995763680030096L, 1846421424640832757L, 6422385963092409764L,
            -5657046011091553561L, 1754308456159983699L, 4732736906806311523L, 3294766563375761071L},
        {9217776710677867485L, -3546142507863039933L, -3984476334556593225L, 4929984268438395286L,
            -2798728765766581004L, 5401093635212560950L, -7342558297091765981L, 2176639604441763502L},
        {6145705365322000818L, 5010555703109973139L, -5359137888773700183L, 3050015706721413003L,
            -1985164913475827345L, 4839876360227538659L, 5382553282460878300L, 3278727415607921008L},
        {8666238667642443708L, -1383946705509397509L, 236470318263838399L, -886115191266088765L,
            -2183749683802211078L, 2279070998413324629L, -7643281634648312665L, -9099192828332529503L},
        {-1701529850300614129L, -104966093160521668L, 7734265360848438946L, -8043614348535324829L,
            9118578846847358784L, 1081405326611688493L, 6046143083670057123L, -1505454873896131670L},
        {3535590793584355279L, 8219980963589591179L, 5448920698158025922L, -2205905835244456401L,
            -8203447660508444784L, -3541036826528271413L, -2116696123437641720L, 7347449240414914994L},
        {3559918370407551291L, -2073458156418469637L, 8111088464292910846L, 6106034455728497743L,
            -2596236120647429628L, -1981018097265891766L, 7271631233312263253L, -6239647976596226329L},
        {-8695160944050249173L, 2355741599036821235L, 2598732996019414550L, -6692551782096839764L,
            -6847150924697390040L, -1571828359280062769L, -2719924808718188549L, 2802324265004594569L},
        {-5620567126425815726L, 8293974229613808086L, -5605659783304702374L, -4062427526277480718L,
            -2108405496708083085L, 3238840045328976550L, 6122183011060947549L, 2754510103052417847L},
        {1272851835617329328L, -7484952074474343632L, 4704588948540237659L, -1534848816394450036L,
            -3530318874542921470L, -8398122366570624517L, 6513032121448987548L, 4972937197167049295L},
        {-6384733932491918846L, 138145303690144071L, 721460300111789702L, -571131098160236651L,
            1015272671466909681L, 8008502694647068771L, 1886146934963460800L, -2165122327688696200L},
        {-9036601914634238722L, 1933398738779729658L, -4887977428485641518L, 202373134819436338L,
            -2571373631570684223L, 3065166621912763254L, 8181203758250710660L, -164774028350191747L},
        {-2185261965343481269L, 6072871664958075316L, -3793665499447192081L, 8726818422912957268L,
            328228541196005464L, -2842555805081241325L, 8622556103666950498L, -8342165935569000442L},
        {1543955012978026025L, -414073551849545731L, 5039211672636740544L, -5198674444882491333L,
            -2357943460490646138L, 5627921845899709145L, 7821206067242996800L, -5116811352528949020L},
        {-5498991227732981163L, 3808255903534011255L, 5166048238827056364L, -2757365195255009454L,
            2511047141699302345L, -295224968524967367L, -583022774595621454L, -1970660397063909179L},
        {3297755185457360352L, 6446797639394268363L, 546179232559964152L, 6189285978470797790L,
            1386012183698034253L, -2613188335950908964L, 964985483687506057L, -7043248066805922154L},
        {-6390868242251011424L, -5331709586593268626L, 7821900111948586462L, 302598570629311196L,
            2074960075745711141L, 2098473837249052675L, 5110989752614486655L, -3250646381413532827L},
    };

    private final WheatRun land = new WheatRun();
    private final long[] folds = new long[CALLS / BETWEEN_LOOKS];
    private long seed;
    private int calls = 0;
    private long fold = 0;
    private int now = 0;
    private final boolean[] isHauling = new boolean[4];

    private LongRunTest(int run) {
        seed = run * 104729L + 5;
    }

    public static void main(String[] args) {
        for (int run = 0; run < DUE.length; run++) {
            long[] got = new LongRunTest(run).play();
            for (int i = 0; i < got.length; i++) {
                if (got[i] != DUE[run][i]) {
                    Check.due("run " + run + " up to call " + (i + 1) * BETWEEN_LOOKS, got[i], DUE[run][i]);
                    break;
                }
            }
        }
        Check.end();
    }

    private int between(int least, int greatest) {
        seed = seed * 6364136223846793005L + 1442695040888963407L;
        return least + (int) ((seed >>> 33) % (greatest - least + 1));
    }

    private boolean oneIn(int many) {
        return between(1, many) == 1;
    }

    private long noted(long answer) {
        fold = fold * 31 + answer;
        calls++;
        if (calls % BETWEEN_LOOKS == 0) {
            folds[calls / BETWEEN_LOOKS - 1] = fold;
        }
        return answer;
    }

    /** What the call answers, or a number of its own for each exception; the last call is left to digest. */
    private int call(Face face, int... arguments) {
        if (calls >= CALLS - 1) {
            return 0;
        }
        int answer;
        try {
            answer = face.on(land, arguments);
        } catch (IndexOutOfBoundsException e) {
            answer = -1000001;
        } catch (IllegalArgumentException e) {
            answer = -1000002;
        } catch (IllegalStateException e) {
            answer = -1000003;
        }
        return (int) noted(answer);
    }

    private long[] play() {
        tell(between(1, 120));
        int longest = oneIn(2) ? between(3, 10) : LONGEST_PASS;
        while (calls < CALLS - 1) {
            passSome(longest);
            crews();
            trucks();
            if (oneIn(9)) {
                ask();
            }
        }
        noted(land.digest());
        return folds;
    }

    private void tell(int reach) {
        for (int i = 0; i < 8; i++) {
            call(Face.FIELD, between(0, 3), between(0, reach), between(20, 200), between(10, 60), between(0, 50));
            call(Face.CROP, i, between(0, 95), between(10, 30));
        }
        for (int i = 0; i < 4; i++) {
            call(Face.COMBINE, between(0, reach), between(1, 20));
            call(Face.TRUCK, between(0, reach));
        }
        for (int i = 0; i < 3; i++) {
            int least = between(8, 16);
            call(Face.ELEVATOR, between(0, reach), between(500, 9999), between(0, 23), between(0, 23), least,
                    least + between(0, 15));
        }
    }

    /** At the end of the season first beyond it, which is refused, and then right up to it. */
    private void passSome(int longest) {
        int hours = between(1, longest);
        call(Face.PASS, hours, between(5, 35), between(20, 85), oneIn(8) ? between(1, 20) : 0);
        if (now + hours > LAST_HOUR) {
            hours = LAST_HOUR - now;
            call(Face.PASS, hours, 20, 50, 0);
        }
        now += hours;
    }

    private void crews() {
        if (oneIn(2)) {
            return;
        }
        int combine = between(0, 3);
        int field = call(Face.NEXT_FIELD, combine, between(6, 48), between(10, 32), between(20, 75));
        if (field >= 0) {
            call(Face.CUT, combine, oneIn(9) ? between(-1, 7) : field);
        } else if (oneIn(3)) {
            call(Face.MEND, combine);
        }
    }

    private void trucks() {
        int truck = between(0, 3);
        if (oneIn(12)) {
            call(Face.STOP, truck);
        } else if (isHauling[truck]) {
            call(Face.FETCH, truck, between(0, 3));
            isHauling[truck] = oneIn(6);
        } else {
            int elevator = between(0, 2);
            call(Face.HAUL, truck, elevator);
            isHauling[truck] = !oneIn(6);
            if (oneIn(9)) {
                call(Face.TRAIN, elevator, between(1, 9999));
            }
        }
    }

    private void ask() {
        call(Face.READY_IN, between(0, 7), between(10, 35), between(20, 90));
        call(Face.WAITING, between(0, 7), between(1, 48), between(10, 35), between(20, 90),
                oneIn(2) ? 0 : between(1, 20));
        call(Face.OF_FIELD, between(0, 7), between(7, 10));
        call(Face.OWED, between(0, 3), between(0, 1));
        call(Face.PRICE, between(1, 999));
        if (calls < CALLS - 1) {
            noted(Double.doubleToLongBits(land.meanDamp()));
        }
    }
}
