theorem zrunM : fX13_init [128650] (16082, 543789, [], zD) = some (7, (16217, 2233841, [], zE)) := zq_run_ok (by decide +kernel)
