theorem zrunM : fX13_init [128650] (16082, 543791, [], zD) = some (7, (16217, 2233843, [], zE)) := zq_run_ok (by decide +kernel)
