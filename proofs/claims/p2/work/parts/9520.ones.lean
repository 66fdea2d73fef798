theorem oC0 : isO W0 0 815 := mkO (c := 815) rfl (by decide) rfl
theorem hC0_9 : W0.2 815 9 = some 816 := zfin_at (c := 815) (j := 9) (v := 816) rfl
theorem aC816 : isA W0 1 700 816 := mkA (c := 816) (n := 700) rfl (by decide) rfl
theorem hC0_10 : W0.2 815 10 = some 817 := zfin_at (c := 815) (j := 10) (v := 817) rfl
theorem aC817 : isA W0 1 700 817 := mkA (c := 817) (n := 700) rfl (by decide) rfl
theorem hC0_13 : W0.2 815 13 = some 818 := zfin_at (c := 815) (j := 13) (v := 818) rfl
theorem aC818 : isA W0 5 1280 818 := mkA (c := 818) (n := 1280) rfl (by decide) rfl
theorem hC0_15 : W0.2 815 15 = some 819 := zfin_at (c := 815) (j := 15) (v := 819) rfl
theorem aC819 : isA W0 0 130 819 := mkA (c := 819) (n := 130) rfl (by decide) rfl
theorem oC2 : isO W0 2 934 := mkO (c := 934) rfl (by decide) rfl
theorem hC2_3 : W0.2 934 3 = some 935 := zfin_at (c := 934) (j := 3) (v := 935) rfl
theorem aC935 : isA W0 0 8000 935 := mkA (c := 935) (n := 8000) rfl (by decide) rfl
theorem hC2_8 : W0.2 934 8 = some 936 := zfin_at (c := 934) (j := 8) (v := 936) rfl
theorem aC936 : isA W0 0 700 936 := mkA (c := 936) (n := 700) rfl (by decide) rfl
theorem hC2_9 : W0.2 934 9 = some 937 := zfin_at (c := 934) (j := 9) (v := 937) rfl
theorem aC937 : isA W0 0 700 937 := mkA (c := 937) (n := 700) rfl (by decide) rfl
theorem oC3 : isO W0 3 820 := mkO (c := 820) rfl (by decide) rfl
theorem oC4 : isO W0 4 814 := mkO (c := 814) rfl (by decide) rfl
theorem oC6 : isO W0 6 938 := mkO (c := 938) rfl (by decide) rfl
theorem hC6_1 : W0.2 938 1 = some 939 := zfin_at (c := 938) (j := 1) (v := 939) rfl
theorem hC6_2 : W0.2 938 2 = some 952 := zfin_at (c := 938) (j := 2) (v := 952) rfl
theorem aC952 : isA W0 0 24000 952 := mkA (c := 952) (n := 24000) rfl (by decide) rfl
theorem hC6_4 : W0.2 938 4 = some 953 := zfin_at (c := 938) (j := 4) (v := 953) rfl
theorem aC953 : isA W0 8 25 953 := mkA (c := 953) (n := 25) rfl (by decide) rfl
theorem hC6_6 : W0.2 938 6 = some 979 := zfin_at (c := 938) (j := 6) (v := 979) rfl
theorem aC979 : isA W0 0 1152 979 := mkA (c := 979) (n := 1152) rfl (by decide) rfl
theorem hC6_8 : W0.2 938 8 = some 980 := zfin_at (c := 938) (j := 8) (v := 980) rfl
theorem aC980 : isA W0 0 202 980 := mkA (c := 980) (n := 202) rfl (by decide) rfl
theorem hC6_9 : W0.2 938 9 = some 981 := zfin_at (c := 938) (j := 9) (v := 981) rfl
theorem aC981 : isA W0 0 202 981 := mkA (c := 981) (n := 202) rfl (by decide) rfl
theorem hC6_11 : W0.2 938 11 = some 982 := zfin_at (c := 938) (j := 11) (v := 982) rfl
theorem aC982 : isA W0 0 2000 982 := mkA (c := 982) (n := 2000) rfl (by decide) rfl
theorem hC6_13 : W0.2 938 13 = some 983 := zfin_at (c := 938) (j := 13) (v := 983) rfl
theorem aC983 : isA W0 0 1280 983 := mkA (c := 983) (n := 1280) rfl (by decide) rfl
theorem hC6_15 : W0.2 938 15 = some 984 := zfin_at (c := 938) (j := 15) (v := 984) rfl
theorem aC984 : isA W0 0 100 984 := mkA (c := 984) (n := 100) rfl (by decide) rfl
theorem oC9 : isO W0 9 7 := mkO (c := 7) rfl (by decide) rfl
theorem hC9_0 : W0.2 7 0 = some 8 := zfin_at (c := 7) (j := 0) (v := 8) rfl
theorem aC8 : isA W0 1 30 8 := mkA (c := 8) (n := 30) rfl (by decide) rfl
theorem hC9_1 : W0.2 7 1 = some 9 := zfin_at (c := 7) (j := 1) (v := 9) rfl
theorem aC9 : isA W0 0 704 9 := mkA (c := 9) (n := 704) rfl (by decide) rfl
theorem hC9_2 : W0.2 7 2 = some 10 := zfin_at (c := 7) (j := 2) (v := 10) rfl
theorem aC10 : isA W0 0 704 10 := mkA (c := 10) (n := 704) rfl (by decide) rfl
theorem hC9_3 : W0.2 7 3 = some 11 := zfin_at (c := 7) (j := 3) (v := 11) rfl
theorem aC11 : isA W0 0 704 11 := mkA (c := 11) (n := 704) rfl (by decide) rfl
theorem hC9_4 : W0.2 7 4 = some 12 := zfin_at (c := 7) (j := 4) (v := 12) rfl
theorem aC12 : isA W0 1 704 12 := mkA (c := 12) (n := 704) rfl (by decide) rfl
theorem hC9_13 : W0.2 7 13 = some 13 := zfin_at (c := 7) (j := 13) (v := 13) rfl
theorem aC13 : isA W0 7 800 13 := mkA (c := 13) (n := 800) rfl (by decide) rfl
theorem oC12 : isO W0 12 0 := mkO (c := 0) rfl (by decide) rfl
theorem hC12_0 : W0.2 0 0 = some 1 := zfin_at (c := 0) (j := 0) (v := 1) rfl
theorem aC1 : isA W0 2 4000 1 := mkA (c := 1) (n := 4000) rfl (by decide) rfl
theorem hC12_2 : W0.2 0 2 = some 2 := zfin_at (c := 0) (j := 2) (v := 2) rfl
theorem aC2 : isA W0 2 600 2 := mkA (c := 2) (n := 600) rfl (by decide) rfl
theorem hC12_4 : W0.2 0 4 = some 3 := zfin_at (c := 0) (j := 4) (v := 3) rfl
theorem aC3 : isA W0 6 17 3 := mkA (c := 3) (n := 17) rfl (by decide) rfl
theorem hC12_5 : W0.2 0 5 = some 4 := zfin_at (c := 0) (j := 5) (v := 4) rfl
theorem aC4 : isA W0 0 5 4 := mkA (c := 4) (n := 5) rfl (by decide) rfl
theorem hC12_6 : W0.2 0 6 = some 5 := zfin_at (c := 0) (j := 6) (v := 5) rfl
theorem aC5 : isA W0 0 5 5 := mkA (c := 5) (n := 5) rfl (by decide) rfl
theorem hC12_7 : W0.2 0 7 = some 6 := zfin_at (c := 0) (j := 7) (v := 6) rfl
theorem aC6 : isA W0 0 5 6 := mkA (c := 6) (n := 5) rfl (by decide) rfl
theorem hC12_8 : W0.2 0 8 = some 7 := zfin_at (c := 0) (j := 8) (v := 7) rfl
theorem hC12_9 : W0.2 0 9 = some 814 := zfin_at (c := 0) (j := 9) (v := 814) rfl
theorem hC12_10 : W0.2 0 10 = some 815 := zfin_at (c := 0) (j := 10) (v := 815) rfl
theorem hC12_11 : W0.2 0 11 = some 820 := zfin_at (c := 0) (j := 11) (v := 820) rfl
theorem hC12_13 : W0.2 0 13 = some 821 := zfin_at (c := 0) (j := 13) (v := 821) rfl
theorem hC12_14 : W0.2 0 14 = some 864 := zfin_at (c := 0) (j := 14) (v := 864) rfl
theorem hC12_15 : W0.2 0 15 = some 907 := zfin_at (c := 0) (j := 15) (v := 907) rfl
theorem hC12_16 : W0.2 0 16 = some 920 := zfin_at (c := 0) (j := 16) (v := 920) rfl
theorem hC12_17 : W0.2 0 17 = some 933 := zfin_at (c := 0) (j := 17) (v := 933) rfl
theorem aC933 : isA W0 0 14820 933 := mkA (c := 933) (n := 14820) rfl (by decide) rfl
theorem hC12_19 : W0.2 0 19 = some 934 := zfin_at (c := 0) (j := 19) (v := 934) rfl
theorem hC12_20 : W0.2 0 20 = some 938 := zfin_at (c := 0) (j := 20) (v := 938) rfl
theorem oC13 : isO W0 13 16081 := mkO (c := 16081) rfl (by decide) rfl
theorem hC13_0 : W0.2 16081 0 = some 16082 := zfin_at (c := 16081) (j := 0) (v := 16082) rfl
theorem aC16082 : isA W0 0 4000 16082 := mkA (c := 16082) (n := 4000) rfl (by decide) rfl
theorem hC13_2 : W0.2 16081 2 = some 16083 := zfin_at (c := 16081) (j := 2) (v := 16083) rfl
theorem aC16083 : isA W0 0 4200 16083 := mkA (c := 16083) (n := 4200) rfl (by decide) rfl
theorem hC13_4 : W0.2 16081 4 = some 16084 := zfin_at (c := 16081) (j := 4) (v := 16084) rfl
theorem aC16084 : isA W0 0 4000 16084 := mkA (c := 16084) (n := 4000) rfl (by decide) rfl
theorem hC13_5 : W0.2 16081 5 = some 16085 := zfin_at (c := 16081) (j := 5) (v := 16085) rfl
theorem aC16085 : isA W0 2 64000 16085 := mkA (c := 16085) (n := 64000) rfl (by decide) rfl
theorem hC13_6 : W0.2 16081 6 = some 16086 := zfin_at (c := 16081) (j := 6) (v := 16086) rfl
theorem aC16086 : isA W0 0 16 16086 := mkA (c := 16086) (n := 16) rfl (by decide) rfl
theorem hC13_7 : W0.2 16081 7 = some 16087 := zfin_at (c := 16081) (j := 7) (v := 16087) rfl
theorem aC16087 : isA W0 0 16 16087 := mkA (c := 16087) (n := 16) rfl (by decide) rfl
theorem hC13_8 : W0.2 16081 8 = some 16088 := zfin_at (c := 16081) (j := 8) (v := 16088) rfl
theorem aC16088 : isA W0 0 40 16088 := mkA (c := 16088) (n := 40) rfl (by decide) rfl
theorem hC13_9 : W0.2 16081 9 = some 16089 := zfin_at (c := 16081) (j := 9) (v := 16089) rfl
theorem aC16089 : isA W0 0 5 16089 := mkA (c := 16089) (n := 5) rfl (by decide) rfl
theorem hC13_11 : W0.2 16081 11 = some 16090 := zfin_at (c := 16081) (j := 11) (v := 16090) rfl
theorem aC16090 : isA W0 0 12636 16090 := mkA (c := 16090) (n := 12636) rfl (by decide) rfl
theorem hC13_12 : W0.2 16081 12 = some 16091 := zfin_at (c := 16081) (j := 12) (v := 16091) rfl
theorem aC16091 : isA W0 0 12636 16091 := mkA (c := 16091) (n := 12636) rfl (by decide) rfl
theorem hC13_13 : W0.2 16081 13 = some 16092 := zfin_at (c := 16081) (j := 13) (v := 16092) rfl
theorem aC16092 : isA W0 0 12636 16092 := mkA (c := 16092) (n := 12636) rfl (by decide) rfl
theorem hC13_14 : W0.2 16081 14 = some 16093 := zfin_at (c := 16081) (j := 14) (v := 16093) rfl
theorem aC16093 : isA W0 1 12636 16093 := mkA (c := 16093) (n := 12636) rfl (by decide) rfl
theorem hC13_15 : W0.2 16081 15 = some 16094 := zfin_at (c := 16081) (j := 15) (v := 16094) rfl
theorem aC16094 : isA W0 0 12636 16094 := mkA (c := 16094) (n := 12636) rfl (by decide) rfl
theorem hC13_16 : W0.2 16081 16 = some 16095 := zfin_at (c := 16081) (j := 16) (v := 16095) rfl
theorem aC16095 : isA W0 0 18 16095 := mkA (c := 16095) (n := 18) rfl (by decide) rfl
theorem hC13_17 : W0.2 16081 17 = some 16096 := zfin_at (c := 16081) (j := 17) (v := 16096) rfl
theorem aC16096 : isA W0 1 32 16096 := mkA (c := 16096) (n := 32) rfl (by decide) rfl
theorem hC13_23 : W0.2 16081 23 = some 16097 := zfin_at (c := 16081) (j := 23) (v := 16097) rfl
theorem aC16097 : isA W0 0 18 16097 := mkA (c := 16097) (n := 18) rfl (by decide) rfl
theorem hC13_24 : W0.2 16081 24 = some 16098 := zfin_at (c := 16081) (j := 24) (v := 16098) rfl
theorem aC16098 : isA W0 1 216 16098 := mkA (c := 16098) (n := 216) rfl (by decide) rfl
theorem hC13_25 : W0.2 16081 25 = some 16099 := zfin_at (c := 16081) (j := 25) (v := 16099) rfl
theorem aC16099 : isA W0 0 216 16099 := mkA (c := 16099) (n := 216) rfl (by decide) rfl
theorem hC13_26 : W0.2 16081 26 = some 16100 := zfin_at (c := 16081) (j := 26) (v := 16100) rfl
theorem aC16100 : isA W0 3 216 16100 := mkA (c := 16100) (n := 216) rfl (by decide) rfl
theorem hC13_27 : W0.2 16081 27 = some 16101 := zfin_at (c := 16081) (j := 27) (v := 16101) rfl
theorem aC16101 : isA W0 0 216 16101 := mkA (c := 16101) (n := 216) rfl (by decide) rfl
theorem hC13_28 : W0.2 16081 28 = some 16102 := zfin_at (c := 16081) (j := 28) (v := 16102) rfl
theorem aC16102 : isA W0 1 216 16102 := mkA (c := 16102) (n := 216) rfl (by decide) rfl
theorem hC13_29 : W0.2 16081 29 = some 16103 := zfin_at (c := 16081) (j := 29) (v := 16103) rfl
theorem aC16103 : isA W0 0 216 16103 := mkA (c := 16103) (n := 216) rfl (by decide) rfl
theorem hC13_30 : W0.2 16081 30 = some 16104 := zfin_at (c := 16081) (j := 30) (v := 16104) rfl
theorem aC16104 : isA W0 1 864 16104 := mkA (c := 16104) (n := 864) rfl (by decide) rfl
theorem hC13_31 : W0.2 16081 31 = some 16105 := zfin_at (c := 16081) (j := 31) (v := 16105) rfl
theorem aC16105 : isA W0 0 864 16105 := mkA (c := 16105) (n := 864) rfl (by decide) rfl
theorem hC13_32 : W0.2 16081 32 = some 16106 := zfin_at (c := 16081) (j := 32) (v := 16106) rfl
theorem aC16106 : isA W0 0 216 16106 := mkA (c := 16106) (n := 216) rfl (by decide) rfl
theorem hC13_33 : W0.2 16081 33 = some 16107 := zfin_at (c := 16081) (j := 33) (v := 16107) rfl
theorem aC16107 : isA W0 1 216 16107 := mkA (c := 16107) (n := 216) rfl (by decide) rfl
theorem hC13_34 : W0.2 16081 34 = some 16108 := zfin_at (c := 16081) (j := 34) (v := 16108) rfl
theorem aC16108 : isA W0 0 216 16108 := mkA (c := 16108) (n := 216) rfl (by decide) rfl
theorem hC13_35 : W0.2 16081 35 = some 16109 := zfin_at (c := 16081) (j := 35) (v := 16109) rfl
theorem aC16109 : isA W0 1 1728 16109 := mkA (c := 16109) (n := 1728) rfl (by decide) rfl
theorem hC13_36 : W0.2 16081 36 = some 16110 := zfin_at (c := 16081) (j := 36) (v := 16110) rfl
theorem aC16110 : isA W0 0 1728 16110 := mkA (c := 16110) (n := 1728) rfl (by decide) rfl
theorem hC13_37 : W0.2 16081 37 = some 16111 := zfin_at (c := 16081) (j := 37) (v := 16111) rfl
theorem aC16111 : isA W0 0 216 16111 := mkA (c := 16111) (n := 216) rfl (by decide) rfl
theorem hC13_38 : W0.2 16081 38 = some 16112 := zfin_at (c := 16081) (j := 38) (v := 16112) rfl
theorem aC16112 : isA W0 1 1728 16112 := mkA (c := 16112) (n := 1728) rfl (by decide) rfl
theorem hC13_39 : W0.2 16081 39 = some 16113 := zfin_at (c := 16081) (j := 39) (v := 16113) rfl
theorem aC16113 : isA W0 0 1728 16113 := mkA (c := 16113) (n := 1728) rfl (by decide) rfl
theorem hC13_40 : W0.2 16081 40 = some 16114 := zfin_at (c := 16081) (j := 40) (v := 16114) rfl
theorem aC16114 : isA W0 0 216 16114 := mkA (c := 16114) (n := 216) rfl (by decide) rfl
theorem hC13_41 : W0.2 16081 41 = some 16115 := zfin_at (c := 16081) (j := 41) (v := 16115) rfl
theorem aC16115 : isA W0 0 216 16115 := mkA (c := 16115) (n := 216) rfl (by decide) rfl
theorem hC13_42 : W0.2 16081 42 = some 16116 := zfin_at (c := 16081) (j := 42) (v := 16116) rfl
theorem aC16116 : isA W0 0 7344 16116 := mkA (c := 16116) (n := 7344) rfl (by decide) rfl
theorem hC13_43 : W0.2 16081 43 = some 16117 := zfin_at (c := 16081) (j := 43) (v := 16117) rfl
theorem aC16117 : isA W0 0 7344 16117 := mkA (c := 16117) (n := 7344) rfl (by decide) rfl
theorem hC13_44 : W0.2 16081 44 = some 16118 := zfin_at (c := 16081) (j := 44) (v := 16118) rfl
theorem aC16118 : isA W0 0 7344 16118 := mkA (c := 16118) (n := 7344) rfl (by decide) rfl
theorem hC13_45 : W0.2 16081 45 = some 16119 := zfin_at (c := 16081) (j := 45) (v := 16119) rfl
theorem aC16119 : isA W0 3 7344 16119 := mkA (c := 16119) (n := 7344) rfl (by decide) rfl
theorem hC13_46 : W0.2 16081 46 = some 16120 := zfin_at (c := 16081) (j := 46) (v := 16120) rfl
theorem aC16120 : isA W0 3 7344 16120 := mkA (c := 16120) (n := 7344) rfl (by decide) rfl
theorem hC13_47 : W0.2 16081 47 = some 16121 := zfin_at (c := 16081) (j := 47) (v := 16121) rfl
theorem aC16121 : isA W0 3 7344 16121 := mkA (c := 16121) (n := 7344) rfl (by decide) rfl
theorem hC13_48 : W0.2 16081 48 = some 16122 := zfin_at (c := 16081) (j := 48) (v := 16122) rfl
theorem aC16122 : isA W0 3 7344 16122 := mkA (c := 16122) (n := 7344) rfl (by decide) rfl
theorem hC13_49 : W0.2 16081 49 = some 16123 := zfin_at (c := 16081) (j := 49) (v := 16123) rfl
theorem aC16123 : isA W0 3 7344 16123 := mkA (c := 16123) (n := 7344) rfl (by decide) rfl
theorem hC13_50 : W0.2 16081 50 = some 16124 := zfin_at (c := 16081) (j := 50) (v := 16124) rfl
theorem aC16124 : isA W0 3 7344 16124 := mkA (c := 16124) (n := 7344) rfl (by decide) rfl
theorem hC13_51 : W0.2 16081 51 = some 16125 := zfin_at (c := 16081) (j := 51) (v := 16125) rfl
theorem aC16125 : isA W0 1 7344 16125 := mkA (c := 16125) (n := 7344) rfl (by decide) rfl
theorem hC13_52 : W0.2 16081 52 = some 16126 := zfin_at (c := 16081) (j := 52) (v := 16126) rfl
theorem aC16126 : isA W0 0 7344 16126 := mkA (c := 16126) (n := 7344) rfl (by decide) rfl
theorem hC13_53 : W0.2 16081 53 = some 16127 := zfin_at (c := 16081) (j := 53) (v := 16127) rfl
theorem aC16127 : isA W0 1 7344 16127 := mkA (c := 16127) (n := 7344) rfl (by decide) rfl
theorem hC13_54 : W0.2 16081 54 = some 16128 := zfin_at (c := 16081) (j := 54) (v := 16128) rfl
theorem aC16128 : isA W0 0 7344 16128 := mkA (c := 16128) (n := 7344) rfl (by decide) rfl
theorem hC13_55 : W0.2 16081 55 = some 16129 := zfin_at (c := 16081) (j := 55) (v := 16129) rfl
theorem aC16129 : isA W0 0 7344 16129 := mkA (c := 16129) (n := 7344) rfl (by decide) rfl
theorem hC13_56 : W0.2 16081 56 = some 16130 := zfin_at (c := 16081) (j := 56) (v := 16130) rfl
theorem aC16130 : isA W0 1 29376 16130 := mkA (c := 16130) (n := 29376) rfl (by decide) rfl
theorem hC13_57 : W0.2 16081 57 = some 16131 := zfin_at (c := 16081) (j := 57) (v := 16131) rfl
theorem aC16131 : isA W0 0 29376 16131 := mkA (c := 16131) (n := 29376) rfl (by decide) rfl
theorem hC13_58 : W0.2 16081 58 = some 16132 := zfin_at (c := 16081) (j := 58) (v := 16132) rfl
theorem aC16132 : isA W0 1 29376 16132 := mkA (c := 16132) (n := 29376) rfl (by decide) rfl
theorem hC13_59 : W0.2 16081 59 = some 16133 := zfin_at (c := 16081) (j := 59) (v := 16133) rfl
theorem aC16133 : isA W0 0 29376 16133 := mkA (c := 16133) (n := 29376) rfl (by decide) rfl
theorem hC13_60 : W0.2 16081 60 = some 16134 := zfin_at (c := 16081) (j := 60) (v := 16134) rfl
theorem aC16134 : isA W0 0 7344 16134 := mkA (c := 16134) (n := 7344) rfl (by decide) rfl
theorem hC13_61 : W0.2 16081 61 = some 16135 := zfin_at (c := 16081) (j := 61) (v := 16135) rfl
theorem aC16135 : isA W0 0 7344 16135 := mkA (c := 16135) (n := 7344) rfl (by decide) rfl
theorem hC13_62 : W0.2 16081 62 = some 16136 := zfin_at (c := 16081) (j := 62) (v := 16136) rfl
theorem aC16136 : isA W0 0 7344 16136 := mkA (c := 16136) (n := 7344) rfl (by decide) rfl
theorem hC13_63 : W0.2 16081 63 = some 16137 := zfin_at (c := 16081) (j := 63) (v := 16137) rfl
theorem aC16137 : isA W0 0 7344 16137 := mkA (c := 16137) (n := 7344) rfl (by decide) rfl
theorem hC13_64 : W0.2 16081 64 = some 16138 := zfin_at (c := 16081) (j := 64) (v := 16138) rfl
theorem aC16138 : isA W0 3 7344 16138 := mkA (c := 16138) (n := 7344) rfl (by decide) rfl
theorem hC13_65 : W0.2 16081 65 = some 16139 := zfin_at (c := 16081) (j := 65) (v := 16139) rfl
theorem aC16139 : isA W0 0 7344 16139 := mkA (c := 16139) (n := 7344) rfl (by decide) rfl
theorem hC13_66 : W0.2 16081 66 = some 16140 := zfin_at (c := 16081) (j := 66) (v := 16140) rfl
theorem aC16140 : isA W0 1 7344 16140 := mkA (c := 16140) (n := 7344) rfl (by decide) rfl
theorem hC13_67 : W0.2 16081 67 = some 16141 := zfin_at (c := 16081) (j := 67) (v := 16141) rfl
theorem aC16141 : isA W0 0 7344 16141 := mkA (c := 16141) (n := 7344) rfl (by decide) rfl
theorem hC13_68 : W0.2 16081 68 = some 16142 := zfin_at (c := 16081) (j := 68) (v := 16142) rfl
theorem aC16142 : isA W0 0 7344 16142 := mkA (c := 16142) (n := 7344) rfl (by decide) rfl
theorem hC13_69 : W0.2 16081 69 = some 16143 := zfin_at (c := 16081) (j := 69) (v := 16143) rfl
theorem aC16143 : isA W0 0 18 16143 := mkA (c := 16143) (n := 18) rfl (by decide) rfl
theorem hC13_70 : W0.2 16081 70 = some 16144 := zfin_at (c := 16081) (j := 70) (v := 16144) rfl
theorem aC16144 : isA W0 0 30600 16144 := mkA (c := 16144) (n := 30600) rfl (by decide) rfl
theorem hC13_71 : W0.2 16081 71 = some 16145 := zfin_at (c := 16081) (j := 71) (v := 16145) rfl
theorem aC16145 : isA W0 0 30600 16145 := mkA (c := 16145) (n := 30600) rfl (by decide) rfl
theorem hC13_72 : W0.2 16081 72 = some 16146 := zfin_at (c := 16081) (j := 72) (v := 16146) rfl
theorem aC16146 : isA W0 0 30600 16146 := mkA (c := 16146) (n := 30600) rfl (by decide) rfl
theorem hC13_73 : W0.2 16081 73 = some 16147 := zfin_at (c := 16081) (j := 73) (v := 16147) rfl
theorem aC16147 : isA W0 0 30600 16147 := mkA (c := 16147) (n := 30600) rfl (by decide) rfl
theorem hC13_74 : W0.2 16081 74 = some 16148 := zfin_at (c := 16081) (j := 74) (v := 16148) rfl
theorem aC16148 : isA W0 1 30600 16148 := mkA (c := 16148) (n := 30600) rfl (by decide) rfl
theorem hC13_75 : W0.2 16081 75 = some 16149 := zfin_at (c := 16081) (j := 75) (v := 16149) rfl
theorem aC16149 : isA W0 1 30600 16149 := mkA (c := 16149) (n := 30600) rfl (by decide) rfl
theorem hC13_76 : W0.2 16081 76 = some 16150 := zfin_at (c := 16081) (j := 76) (v := 16150) rfl
theorem aC16150 : isA W0 1 30600 16150 := mkA (c := 16150) (n := 30600) rfl (by decide) rfl
theorem hC13_77 : W0.2 16081 77 = some 16151 := zfin_at (c := 16081) (j := 77) (v := 16151) rfl
theorem aC16151 : isA W0 0 30600 16151 := mkA (c := 16151) (n := 30600) rfl (by decide) rfl
theorem hC13_78 : W0.2 16081 78 = some 16152 := zfin_at (c := 16081) (j := 78) (v := 16152) rfl
theorem aC16152 : isA W0 0 30600 16152 := mkA (c := 16152) (n := 30600) rfl (by decide) rfl
theorem hC13_79 : W0.2 16081 79 = some 16153 := zfin_at (c := 16081) (j := 79) (v := 16153) rfl
theorem aC16153 : isA W0 0 30600 16153 := mkA (c := 16153) (n := 30600) rfl (by decide) rfl
theorem hC13_80 : W0.2 16081 80 = some 16154 := zfin_at (c := 16081) (j := 80) (v := 16154) rfl
theorem aC16154 : isA W0 0 30600 16154 := mkA (c := 16154) (n := 30600) rfl (by decide) rfl
theorem hC13_81 : W0.2 16081 81 = some 16155 := zfin_at (c := 16081) (j := 81) (v := 16155) rfl
theorem aC16155 : isA W0 0 30600 16155 := mkA (c := 16155) (n := 30600) rfl (by decide) rfl
theorem hC13_82 : W0.2 16081 82 = some 16156 := zfin_at (c := 16081) (j := 82) (v := 16156) rfl
theorem aC16156 : isA W0 0 30600 16156 := mkA (c := 16156) (n := 30600) rfl (by decide) rfl
theorem hC13_83 : W0.2 16081 83 = some 16157 := zfin_at (c := 16081) (j := 83) (v := 16157) rfl
theorem aC16157 : isA W0 1 30600 16157 := mkA (c := 16157) (n := 30600) rfl (by decide) rfl
theorem hC13_84 : W0.2 16081 84 = some 16158 := zfin_at (c := 16081) (j := 84) (v := 16158) rfl
theorem aC16158 : isA W0 1 30600 16158 := mkA (c := 16158) (n := 30600) rfl (by decide) rfl
theorem hC13_85 : W0.2 16081 85 = some 16159 := zfin_at (c := 16081) (j := 85) (v := 16159) rfl
theorem aC16159 : isA W0 0 30600 16159 := mkA (c := 16159) (n := 30600) rfl (by decide) rfl
theorem hC13_86 : W0.2 16081 86 = some 16160 := zfin_at (c := 16081) (j := 86) (v := 16160) rfl
theorem aC16160 : isA W0 1 122400 16160 := mkA (c := 16160) (n := 122400) rfl (by decide) rfl
theorem hC13_87 : W0.2 16081 87 = some 16161 := zfin_at (c := 16081) (j := 87) (v := 16161) rfl
theorem aC16161 : isA W0 0 30600 16161 := mkA (c := 16161) (n := 30600) rfl (by decide) rfl
theorem hC13_88 : W0.2 16081 88 = some 16162 := zfin_at (c := 16081) (j := 88) (v := 16162) rfl
theorem aC16162 : isA W0 0 30600 16162 := mkA (c := 16162) (n := 30600) rfl (by decide) rfl
theorem hC13_90 : W0.2 16081 90 = some 16163 := zfin_at (c := 16081) (j := 90) (v := 16163) rfl
theorem aC16163 : isA W0 0 5 16163 := mkA (c := 16163) (n := 5) rfl (by decide) rfl
theorem hC13_93 : W0.2 16081 93 = some 16164 := zfin_at (c := 16081) (j := 93) (v := 16164) rfl
theorem aC16164 : isA W0 0 216 16164 := mkA (c := 16164) (n := 216) rfl (by decide) rfl
theorem hC13_94 : W0.2 16081 94 = some 16165 := zfin_at (c := 16081) (j := 94) (v := 16165) rfl
theorem aC16165 : isA W0 0 216 16165 := mkA (c := 16165) (n := 216) rfl (by decide) rfl
theorem hC13_96 : W0.2 16081 96 = some 16166 := zfin_at (c := 16081) (j := 96) (v := 16166) rfl
theorem aC16166 : isA W0 0 4000 16166 := mkA (c := 16166) (n := 4000) rfl (by decide) rfl
theorem hC13_97 : W0.2 16081 97 = some 16167 := zfin_at (c := 16081) (j := 97) (v := 16167) rfl
theorem aC16167 : isA W0 0 216 16167 := mkA (c := 16167) (n := 216) rfl (by decide) rfl
theorem hC13_99 : W0.2 16081 99 = some 16168 := zfin_at (c := 16081) (j := 99) (v := 16168) rfl
theorem aC16168 : isA W0 0 216 16168 := mkA (c := 16168) (n := 216) rfl (by decide) rfl
theorem hC13_100 : W0.2 16081 100 = some 16169 := zfin_at (c := 16081) (j := 100) (v := 16169) rfl
theorem aC16169 : isA W0 0 216 16169 := mkA (c := 16169) (n := 216) rfl (by decide) rfl
theorem hC13_103 : W0.2 16081 103 = some 16170 := zfin_at (c := 16081) (j := 103) (v := 16170) rfl
theorem aC16170 : isA W0 0 432 16170 := mkA (c := 16170) (n := 432) rfl (by decide) rfl
theorem hC13_105 : W0.2 16081 105 = some 16171 := zfin_at (c := 16081) (j := 105) (v := 16171) rfl
theorem aC16171 : isA W0 0 216 16171 := mkA (c := 16171) (n := 216) rfl (by decide) rfl
theorem hC13_106 : W0.2 16081 106 = some 16172 := zfin_at (c := 16081) (j := 106) (v := 16172) rfl
theorem aC16172 : isA W0 0 216 16172 := mkA (c := 16172) (n := 216) rfl (by decide) rfl
theorem hC13_107 : W0.2 16081 107 = some 16173 := zfin_at (c := 16081) (j := 107) (v := 16173) rfl
theorem aC16173 : isA W0 0 1704 16173 := mkA (c := 16173) (n := 1704) rfl (by decide) rfl
theorem hC13_112 : W0.2 16081 112 = some 16174 := zfin_at (c := 16081) (j := 112) (v := 16174) rfl
theorem aC16174 : isA W0 1 720 16174 := mkA (c := 16174) (n := 720) rfl (by decide) rfl
theorem hC13_113 : W0.2 16081 113 = some 16175 := zfin_at (c := 16081) (j := 113) (v := 16175) rfl
theorem aC16175 : isA W0 1 720 16175 := mkA (c := 16175) (n := 720) rfl (by decide) rfl
theorem hC13_115 : W0.2 16081 115 = some 16176 := zfin_at (c := 16081) (j := 115) (v := 16176) rfl
theorem aC16176 : isA W0 0 432 16176 := mkA (c := 16176) (n := 432) rfl (by decide) rfl
theorem hC13_117 : W0.2 16081 117 = some 16177 := zfin_at (c := 16081) (j := 117) (v := 16177) rfl
theorem aC16177 : isA W0 0 216 16177 := mkA (c := 16177) (n := 216) rfl (by decide) rfl
theorem hC13_118 : W0.2 16081 118 = some 16178 := zfin_at (c := 16081) (j := 118) (v := 16178) rfl
theorem aC16178 : isA W0 0 17 16178 := mkA (c := 16178) (n := 17) rfl (by decide) rfl
theorem hC13_119 : W0.2 16081 119 = some 16179 := zfin_at (c := 16081) (j := 119) (v := 16179) rfl
theorem aC16179 : isA W0 0 30600 16179 := mkA (c := 16179) (n := 30600) rfl (by decide) rfl
theorem hC13_120 : W0.2 16081 120 = some 16180 := zfin_at (c := 16081) (j := 120) (v := 16180) rfl
theorem aC16180 : isA W0 0 30600 16180 := mkA (c := 16180) (n := 30600) rfl (by decide) rfl
theorem hC13_121 : W0.2 16081 121 = some 16181 := zfin_at (c := 16081) (j := 121) (v := 16181) rfl
theorem aC16181 : isA W0 1 30600 16181 := mkA (c := 16181) (n := 30600) rfl (by decide) rfl
theorem hC13_122 : W0.2 16081 122 = some 16182 := zfin_at (c := 16081) (j := 122) (v := 16182) rfl
theorem aC16182 : isA W0 1 30600 16182 := mkA (c := 16182) (n := 30600) rfl (by decide) rfl
theorem hC13_123 : W0.2 16081 123 = some 16183 := zfin_at (c := 16081) (j := 123) (v := 16183) rfl
theorem aC16183 : isA W0 1 30600 16183 := mkA (c := 16183) (n := 30600) rfl (by decide) rfl
theorem hC13_124 : W0.2 16081 124 = some 16184 := zfin_at (c := 16081) (j := 124) (v := 16184) rfl
theorem aC16184 : isA W0 0 30600 16184 := mkA (c := 16184) (n := 30600) rfl (by decide) rfl
theorem hC13_125 : W0.2 16081 125 = some 16185 := zfin_at (c := 16081) (j := 125) (v := 16185) rfl
theorem aC16185 : isA W0 1 122400 16185 := mkA (c := 16185) (n := 122400) rfl (by decide) rfl
theorem hC13_126 : W0.2 16081 126 = some 16186 := zfin_at (c := 16081) (j := 126) (v := 16186) rfl
theorem aC16186 : isA W0 1 30600 16186 := mkA (c := 16186) (n := 30600) rfl (by decide) rfl
theorem hC13_127 : W0.2 16081 127 = some 16187 := zfin_at (c := 16081) (j := 127) (v := 16187) rfl
theorem aC16187 : isA W0 0 30600 16187 := mkA (c := 16187) (n := 30600) rfl (by decide) rfl
theorem hC13_130 : W0.2 16081 130 = some 16188 := zfin_at (c := 16081) (j := 130) (v := 16188) rfl
theorem aC16188 : isA W0 0 64 16188 := mkA (c := 16188) (n := 64) rfl (by decide) rfl
theorem hC13_131 : W0.2 16081 131 = some 16189 := zfin_at (c := 16081) (j := 131) (v := 16189) rfl
theorem aC16189 : isA W0 0 216 16189 := mkA (c := 16189) (n := 216) rfl (by decide) rfl
theorem hC13_132 : W0.2 16081 132 = some 16190 := zfin_at (c := 16081) (j := 132) (v := 16190) rfl
theorem aC16190 : isA W0 0 128 16190 := mkA (c := 16190) (n := 128) rfl (by decide) rfl
theorem hC13_133 : W0.2 16081 133 = some 16191 := zfin_at (c := 16081) (j := 133) (v := 16191) rfl
theorem aC16191 : isA W0 0 128 16191 := mkA (c := 16191) (n := 128) rfl (by decide) rfl
theorem hC13_135 : W0.2 16081 135 = some 16192 := zfin_at (c := 16081) (j := 135) (v := 16192) rfl
theorem aC16192 : isA W0 0 600 16192 := mkA (c := 16192) (n := 600) rfl (by decide) rfl
theorem hC13_138 : W0.2 16081 138 = some 16193 := zfin_at (c := 16081) (j := 138) (v := 16193) rfl
theorem aC16193 : isA W0 0 216 16193 := mkA (c := 16193) (n := 216) rfl (by decide) rfl
theorem hC13_141 : W0.2 16081 141 = some 16194 := zfin_at (c := 16081) (j := 141) (v := 16194) rfl
theorem aC16194 : isA W0 0 216 16194 := mkA (c := 16194) (n := 216) rfl (by decide) rfl
theorem hC13_143 : W0.2 16081 143 = some 16195 := zfin_at (c := 16081) (j := 143) (v := 16195) rfl
theorem aC16195 : isA W0 0 216 16195 := mkA (c := 16195) (n := 216) rfl (by decide) rfl
theorem hC13_144 : W0.2 16081 144 = some 16196 := zfin_at (c := 16081) (j := 144) (v := 16196) rfl
theorem aC16196 : isA W0 0 27000 16196 := mkA (c := 16196) (n := 27000) rfl (by decide) rfl
theorem hC13_146 : W0.2 16081 146 = some 16197 := zfin_at (c := 16081) (j := 146) (v := 16197) rfl
theorem aC16197 : isA W0 0 5 16197 := mkA (c := 16197) (n := 5) rfl (by decide) rfl
theorem hC13_147 : W0.2 16081 147 = some 16198 := zfin_at (c := 16081) (j := 147) (v := 16198) rfl
theorem aC16198 : isA W0 0 5 16198 := mkA (c := 16198) (n := 5) rfl (by decide) rfl
theorem hC13_148 : W0.2 16081 148 = some 16199 := zfin_at (c := 16081) (j := 148) (v := 16199) rfl
theorem aC16199 : isA W0 0 7344 16199 := mkA (c := 16199) (n := 7344) rfl (by decide) rfl
theorem hC13_149 : W0.2 16081 149 = some 16200 := zfin_at (c := 16081) (j := 149) (v := 16200) rfl
theorem aC16200 : isA W0 0 202 16200 := mkA (c := 16200) (n := 202) rfl (by decide) rfl
theorem hC13_150 : W0.2 16081 150 = some 16201 := zfin_at (c := 16081) (j := 150) (v := 16201) rfl
theorem aC16201 : isA W0 0 202 16201 := mkA (c := 16201) (n := 202) rfl (by decide) rfl
theorem hC13_152 : W0.2 16081 152 = some 16202 := zfin_at (c := 16081) (j := 152) (v := 16202) rfl
theorem aC16202 : isA W0 0 2001 16202 := mkA (c := 16202) (n := 2001) rfl (by decide) rfl
theorem hC13_154 : W0.2 16081 154 = some 16203 := zfin_at (c := 16081) (j := 154) (v := 16203) rfl
theorem aC16203 : isA W0 0 6240 16203 := mkA (c := 16203) (n := 6240) rfl (by decide) rfl
theorem hC13_156 : W0.2 16081 156 = some 16204 := zfin_at (c := 16081) (j := 156) (v := 16204) rfl
theorem aC16204 : isA W0 0 17280 16204 := mkA (c := 16204) (n := 17280) rfl (by decide) rfl
theorem hC13_157 : W0.2 16081 157 = some 16205 := zfin_at (c := 16081) (j := 157) (v := 16205) rfl
theorem aC16205 : isA W0 0 17280 16205 := mkA (c := 16205) (n := 17280) rfl (by decide) rfl
theorem hC13_158 : W0.2 16081 158 = some 16206 := zfin_at (c := 16081) (j := 158) (v := 16206) rfl
theorem aC16206 : isA W0 0 17280 16206 := mkA (c := 16206) (n := 17280) rfl (by decide) rfl
theorem hC13_159 : W0.2 16081 159 = some 16207 := zfin_at (c := 16081) (j := 159) (v := 16207) rfl
theorem aC16207 : isA W0 0 17280 16207 := mkA (c := 16207) (n := 17280) rfl (by decide) rfl
theorem hC13_160 : W0.2 16081 160 = some 16208 := zfin_at (c := 16081) (j := 160) (v := 16208) rfl
theorem aC16208 : isA W0 0 17280 16208 := mkA (c := 16208) (n := 17280) rfl (by decide) rfl
theorem hC13_168 : W0.2 16081 168 = some 16209 := zfin_at (c := 16081) (j := 168) (v := 16209) rfl
theorem aC16209 : isA W0 0 100 16209 := mkA (c := 16209) (n := 100) rfl (by decide) rfl
theorem hC13_170 : W0.2 16081 170 = some 16210 := zfin_at (c := 16081) (j := 170) (v := 16210) rfl
theorem aC16210 : isA W0 0 216 16210 := mkA (c := 16210) (n := 216) rfl (by decide) rfl
theorem hC13_172 : W0.2 16081 172 = some 16211 := zfin_at (c := 16081) (j := 172) (v := 16211) rfl
theorem aC16211 : isA W0 0 8000 16211 := mkA (c := 16211) (n := 8000) rfl (by decide) rfl
theorem hC13_174 : W0.2 16081 174 = some 16212 := zfin_at (c := 16081) (j := 174) (v := 16212) rfl
theorem aC16212 : isA W0 0 30000 16212 := mkA (c := 16212) (n := 30000) rfl (by decide) rfl
theorem hC13_176 : W0.2 16081 176 = some 16213 := zfin_at (c := 16081) (j := 176) (v := 16213) rfl
theorem aC16213 : isA W0 0 702 16213 := mkA (c := 16213) (n := 702) rfl (by decide) rfl
theorem hC13_177 : W0.2 16081 177 = some 16214 := zfin_at (c := 16081) (j := 177) (v := 16214) rfl
theorem aC16214 : isA W0 0 702 16214 := mkA (c := 16214) (n := 702) rfl (by decide) rfl
theorem hC13_178 : W0.2 16081 178 = some 16215 := zfin_at (c := 16081) (j := 178) (v := 16215) rfl
theorem aC16215 : isA W0 0 30000 16215 := mkA (c := 16215) (n := 30000) rfl (by decide) rfl
theorem hC13_179 : W0.2 16081 179 = some 16216 := zfin_at (c := 16081) (j := 179) (v := 16216) rfl
theorem aC16216 : isA W0 0 1800 16216 := mkA (c := 16216) (n := 1800) rfl (by decide) rfl
