theorem am_k267_0 : am_ck 267 0 100 = true := by decide +kernel
theorem am_k267_100 : am_ck 267 100 59 = true := by decide +kernel
theorem am_o267 (pc : Nat) (q : am_E) (h : am_tb 267 pc = some q) : am_oke 267 pc q = true := am_okr_all (n := 158) ((am_okr_app (am_ck_ok am_k267_0) (am_ck_ok am_k267_100))) (fun _ => rfl) h
theorem am_k268_0 : am_ck 268 0 100 = true := by decide +kernel
theorem am_k268_100 : am_ck 268 100 7 = true := by decide +kernel
theorem am_o268 (pc : Nat) (q : am_E) (h : am_tb 268 pc = some q) : am_oke 268 pc q = true := am_okr_all (n := 106) ((am_okr_app (am_ck_ok am_k268_0) (am_ck_ok am_k268_100))) (fun _ => rfl) h
theorem am_k269_0 : am_ck 269 0 50 = true := by decide +kernel
theorem am_o269 (pc : Nat) (q : am_E) (h : am_tb 269 pc = some q) : am_oke 269 pc q = true := am_okr_all (n := 49) (am_ck_ok am_k269_0) (fun _ => rfl) h
theorem am_k270_0 : am_ck 270 0 60 = true := by decide +kernel
theorem am_o270 (pc : Nat) (q : am_E) (h : am_tb 270 pc = some q) : am_oke 270 pc q = true := am_okr_all (n := 59) (am_ck_ok am_k270_0) (fun _ => rfl) h
theorem am_k271_0 : am_ck 271 0 100 = true := by decide +kernel
theorem am_k271_100 : am_ck 271 100 10 = true := by decide +kernel
theorem am_o271 (pc : Nat) (q : am_E) (h : am_tb 271 pc = some q) : am_oke 271 pc q = true := am_okr_all (n := 109) ((am_okr_app (am_ck_ok am_k271_0) (am_ck_ok am_k271_100))) (fun _ => rfl) h
theorem am_k272_0 : am_ck 272 0 100 = true := by decide +kernel
theorem am_k272_100 : am_ck 272 100 34 = true := by decide +kernel
theorem am_o272 (pc : Nat) (q : am_E) (h : am_tb 272 pc = some q) : am_oke 272 pc q = true := am_okr_all (n := 133) ((am_okr_app (am_ck_ok am_k272_0) (am_ck_ok am_k272_100))) (fun _ => rfl) h
theorem am_k273_0 : am_ck 273 0 50 = true := by decide +kernel
theorem am_o273 (pc : Nat) (q : am_E) (h : am_tb 273 pc = some q) : am_oke 273 pc q = true := am_okr_all (n := 49) (am_ck_ok am_k273_0) (fun _ => rfl) h
theorem am_k274_0 : am_ck 274 0 50 = true := by decide +kernel
theorem am_o274 (pc : Nat) (q : am_E) (h : am_tb 274 pc = some q) : am_oke 274 pc q = true := am_okr_all (n := 49) (am_ck_ok am_k274_0) (fun _ => rfl) h
theorem am_k275_0 : am_ck 275 0 75 = true := by decide +kernel
theorem am_o275 (pc : Nat) (q : am_E) (h : am_tb 275 pc = some q) : am_oke 275 pc q = true := am_okr_all (n := 74) (am_ck_ok am_k275_0) (fun _ => rfl) h
theorem am_k276_0 : am_ck 276 0 44 = true := by decide +kernel
theorem am_o276 (pc : Nat) (q : am_E) (h : am_tb 276 pc = some q) : am_oke 276 pc q = true := am_okr_all (n := 43) (am_ck_ok am_k276_0) (fun _ => rfl) h
theorem am_k277_0 : am_ck 277 0 86 = true := by decide +kernel
theorem am_o277 (pc : Nat) (q : am_E) (h : am_tb 277 pc = some q) : am_oke 277 pc q = true := am_okr_all (n := 85) (am_ck_ok am_k277_0) (fun _ => rfl) h
theorem am_k278_0 : am_ck 278 0 95 = true := by decide +kernel
theorem am_o278 (pc : Nat) (q : am_E) (h : am_tb 278 pc = some q) : am_oke 278 pc q = true := am_okr_all (n := 94) (am_ck_ok am_k278_0) (fun _ => rfl) h
theorem am_k279_0 : am_ck 279 0 100 = true := by decide +kernel
theorem am_k279_100 : am_ck 279 100 40 = true := by decide +kernel
theorem am_o279 (pc : Nat) (q : am_E) (h : am_tb 279 pc = some q) : am_oke 279 pc q = true := am_okr_all (n := 139) ((am_okr_app (am_ck_ok am_k279_0) (am_ck_ok am_k279_100))) (fun _ => rfl) h
theorem am_k280_0 : am_ck 280 0 21 = true := by decide +kernel
theorem am_o280 (pc : Nat) (q : am_E) (h : am_tb 280 pc = some q) : am_oke 280 pc q = true := am_okr_all (n := 20) (am_ck_ok am_k280_0) (fun _ => rfl) h
theorem am_og0 {i : Nat} (h1 : 0 ≤ i) (h2 : i ≤ 39) (pc : Nat) (q : am_E) (h : am_tb i pc = some q) : am_oke i pc q = true := by
  rcases Nat.lt_or_ge 19 i with z0_39 | z0_39
  ·
    rcases Nat.lt_or_ge 29 i with z20_39 | z20_39
    ·
      rcases Nat.lt_or_ge 34 i with z30_39 | z30_39
      ·
        rcases Nat.lt_or_ge 37 i with z35_39 | z35_39
        ·
          rcases Nat.lt_or_ge 38 i with z38_39 | z38_39
          ·
            obtain rfl : i = 39 := by omega
            exact am_o39 pc q h
          ·
            obtain rfl : i = 38 := by omega
            exact am_o38 pc q h
        ·
          rcases Nat.lt_or_ge 36 i with z35_37 | z35_37
          ·
            obtain rfl : i = 37 := by omega
            exact am_o37 pc q h
          ·
            rcases Nat.lt_or_ge 35 i with z35_36 | z35_36
            ·
              obtain rfl : i = 36 := by omega
              exact am_o36 pc q h
            ·
              obtain rfl : i = 35 := by omega
              exact am_o35 pc q h
      ·
        rcases Nat.lt_or_ge 32 i with z30_34 | z30_34
        ·
          rcases Nat.lt_or_ge 33 i with z33_34 | z33_34
          ·
            obtain rfl : i = 34 := by omega
            exact am_o34 pc q h
          ·
            obtain rfl : i = 33 := by omega
            exact am_o33 pc q h
        ·
          rcases Nat.lt_or_ge 31 i with z30_32 | z30_32
          ·
            obtain rfl : i = 32 := by omega
            exact am_o32 pc q h
          ·
            rcases Nat.lt_or_ge 30 i with z30_31 | z30_31
            ·
              obtain rfl : i = 31 := by omega
              exact am_o31 pc q h
            ·
              obtain rfl : i = 30 := by omega
              exact am_o30 pc q h
    ·
      rcases Nat.lt_or_ge 24 i with z20_29 | z20_29
      ·
        rcases Nat.lt_or_ge 27 i with z25_29 | z25_29
        ·
          rcases Nat.lt_or_ge 28 i with z28_29 | z28_29
          ·
            obtain rfl : i = 29 := by omega
            exact am_o29 pc q h
          ·
            obtain rfl : i = 28 := by omega
            exact am_o28 pc q h
        ·
          rcases Nat.lt_or_ge 26 i with z25_27 | z25_27
          ·
            obtain rfl : i = 27 := by omega
            exact am_o27 pc q h
          ·
            rcases Nat.lt_or_ge 25 i with z25_26 | z25_26
            ·
              obtain rfl : i = 26 := by omega
              exact am_o26 pc q h
            ·
              obtain rfl : i = 25 := by omega
              exact am_o25 pc q h
      ·
        rcases Nat.lt_or_ge 22 i with z20_24 | z20_24
        ·
          rcases Nat.lt_or_ge 23 i with z23_24 | z23_24
          ·
            obtain rfl : i = 24 := by omega
            exact am_o24 pc q h
          ·
            obtain rfl : i = 23 := by omega
            exact am_o23 pc q h
        ·
          rcases Nat.lt_or_ge 21 i with z20_22 | z20_22
          ·
            obtain rfl : i = 22 := by omega
            exact am_o22 pc q h
          ·
            rcases Nat.lt_or_ge 20 i with z20_21 | z20_21
            ·
              obtain rfl : i = 21 := by omega
              exact am_o21 pc q h
            ·
              obtain rfl : i = 20 := by omega
              exact am_o20 pc q h
  ·
    rcases Nat.lt_or_ge 9 i with z0_19 | z0_19
    ·
      rcases Nat.lt_or_ge 14 i with z10_19 | z10_19
      ·
        rcases Nat.lt_or_ge 17 i with z15_19 | z15_19
        ·
          rcases Nat.lt_or_ge 18 i with z18_19 | z18_19
          ·
            obtain rfl : i = 19 := by omega
            exact am_o19 pc q h
          ·
            obtain rfl : i = 18 := by omega
            exact am_o18 pc q h
        ·
          rcases Nat.lt_or_ge 16 i with z15_17 | z15_17
          ·
            obtain rfl : i = 17 := by omega
            exact am_o17 pc q h
          ·
            rcases Nat.lt_or_ge 15 i with z15_16 | z15_16
            ·
              obtain rfl : i = 16 := by omega
              exact am_o16 pc q h
            ·
              obtain rfl : i = 15 := by omega
              exact am_o15 pc q h
      ·
        rcases Nat.lt_or_ge 12 i with z10_14 | z10_14
        ·
          rcases Nat.lt_or_ge 13 i with z13_14 | z13_14
          ·
            obtain rfl : i = 14 := by omega
            exact am_o14 pc q h
          ·
            obtain rfl : i = 13 := by omega
            exact am_o13 pc q h
        ·
          rcases Nat.lt_or_ge 11 i with z10_12 | z10_12
          ·
            obtain rfl : i = 12 := by omega
            exact am_o12 pc q h
          ·
            rcases Nat.lt_or_ge 10 i with z10_11 | z10_11
            ·
              obtain rfl : i = 11 := by omega
              exact am_o11 pc q h
            ·
              obtain rfl : i = 10 := by omega
              exact am_o10 pc q h
    ·
      rcases Nat.lt_or_ge 4 i with z0_9 | z0_9
      ·
        rcases Nat.lt_or_ge 7 i with z5_9 | z5_9
        ·
          rcases Nat.lt_or_ge 8 i with z8_9 | z8_9
          ·
            obtain rfl : i = 9 := by omega
            exact am_o9 pc q h
          ·
            obtain rfl : i = 8 := by omega
            exact am_o8 pc q h
        ·
          rcases Nat.lt_or_ge 6 i with z5_7 | z5_7
          ·
            obtain rfl : i = 7 := by omega
            exact am_o7 pc q h
          ·
            rcases Nat.lt_or_ge 5 i with z5_6 | z5_6
            ·
              obtain rfl : i = 6 := by omega
              exact am_o6 pc q h
            ·
              obtain rfl : i = 5 := by omega
              exact am_o5 pc q h
      ·
        rcases Nat.lt_or_ge 2 i with z0_4 | z0_4
        ·
          rcases Nat.lt_or_ge 3 i with z3_4 | z3_4
          ·
            obtain rfl : i = 4 := by omega
            exact am_o4 pc q h
          ·
            obtain rfl : i = 3 := by omega
            exact am_o3 pc q h
        ·
          rcases Nat.lt_or_ge 1 i with z0_2 | z0_2
          ·
            obtain rfl : i = 2 := by omega
            exact am_o2 pc q h
          ·
            rcases Nat.lt_or_ge 0 i with z0_1 | z0_1
            ·
              obtain rfl : i = 1 := by omega
              exact am_o1 pc q h
            ·
              obtain rfl : i = 0 := by omega
              exact am_o0 pc q h
theorem am_og40 {i : Nat} (h1 : 40 ≤ i) (h2 : i ≤ 79) (pc : Nat) (q : am_E) (h : am_tb i pc = some q) : am_oke i pc q = true := by
  rcases Nat.lt_or_ge 59 i with z40_79 | z40_79
  ·
    rcases Nat.lt_or_ge 69 i with z60_79 | z60_79
    ·
      rcases Nat.lt_or_ge 74 i with z70_79 | z70_79
      ·
        rcases Nat.lt_or_ge 77 i with z75_79 | z75_79
        ·
          rcases Nat.lt_or_ge 78 i with z78_79 | z78_79
          ·
            obtain rfl : i = 79 := by omega
            exact am_o79 pc q h
          ·
            obtain rfl : i = 78 := by omega
            exact am_o78 pc q h
        ·
          rcases Nat.lt_or_ge 76 i with z75_77 | z75_77
          ·
            obtain rfl : i = 77 := by omega
            exact am_o77 pc q h
          ·
            rcases Nat.lt_or_ge 75 i with z75_76 | z75_76
            ·
              obtain rfl : i = 76 := by omega
              exact am_o76 pc q h
            ·
              obtain rfl : i = 75 := by omega
              exact am_o75 pc q h
      ·
        rcases Nat.lt_or_ge 72 i with z70_74 | z70_74
        ·
          rcases Nat.lt_or_ge 73 i with z73_74 | z73_74
          ·
            obtain rfl : i = 74 := by omega
            exact am_o74 pc q h
          ·
            obtain rfl : i = 73 := by omega
            exact am_o73 pc q h
        ·
          rcases Nat.lt_or_ge 71 i with z70_72 | z70_72
          ·
            obtain rfl : i = 72 := by omega
            exact am_o72 pc q h
          ·
            rcases Nat.lt_or_ge 70 i with z70_71 | z70_71
            ·
              obtain rfl : i = 71 := by omega
              exact am_o71 pc q h
            ·
              obtain rfl : i = 70 := by omega
              exact am_o70 pc q h
    ·
      rcases Nat.lt_or_ge 64 i with z60_69 | z60_69
      ·
        rcases Nat.lt_or_ge 67 i with z65_69 | z65_69
        ·
          rcases Nat.lt_or_ge 68 i with z68_69 | z68_69
          ·
            obtain rfl : i = 69 := by omega
            exact am_o69 pc q h
          ·
            obtain rfl : i = 68 := by omega
            exact am_o68 pc q h
        ·
          rcases Nat.lt_or_ge 66 i with z65_67 | z65_67
          ·
            obtain rfl : i = 67 := by omega
            exact am_o67 pc q h
          ·
            rcases Nat.lt_or_ge 65 i with z65_66 | z65_66
            ·
              obtain rfl : i = 66 := by omega
              exact am_o66 pc q h
            ·
              obtain rfl : i = 65 := by omega
              exact am_o65 pc q h
      ·
        rcases Nat.lt_or_ge 62 i with z60_64 | z60_64
        ·
          rcases Nat.lt_or_ge 63 i with z63_64 | z63_64
          ·
            obtain rfl : i = 64 := by omega
            exact am_o64 pc q h
          ·
            obtain rfl : i = 63 := by omega
            exact am_o63 pc q h
        ·
          rcases Nat.lt_or_ge 61 i with z60_62 | z60_62
          ·
            obtain rfl : i = 62 := by omega
            exact am_o62 pc q h
          ·
            rcases Nat.lt_or_ge 60 i with z60_61 | z60_61
            ·
              obtain rfl : i = 61 := by omega
              exact am_o61 pc q h
            ·
              obtain rfl : i = 60 := by omega
              exact am_o60 pc q h
  ·
    rcases Nat.lt_or_ge 49 i with z40_59 | z40_59
    ·
      rcases Nat.lt_or_ge 54 i with z50_59 | z50_59
      ·
        rcases Nat.lt_or_ge 57 i with z55_59 | z55_59
        ·
          rcases Nat.lt_or_ge 58 i with z58_59 | z58_59
          ·
            obtain rfl : i = 59 := by omega
            exact am_o59 pc q h
          ·
            obtain rfl : i = 58 := by omega
            exact am_o58 pc q h
        ·
          rcases Nat.lt_or_ge 56 i with z55_57 | z55_57
          ·
            obtain rfl : i = 57 := by omega
            exact am_o57 pc q h
          ·
            rcases Nat.lt_or_ge 55 i with z55_56 | z55_56
            ·
              obtain rfl : i = 56 := by omega
              exact am_o56 pc q h
            ·
              obtain rfl : i = 55 := by omega
              exact am_o55 pc q h
      ·
        rcases Nat.lt_or_ge 52 i with z50_54 | z50_54
        ·
          rcases Nat.lt_or_ge 53 i with z53_54 | z53_54
          ·
            obtain rfl : i = 54 := by omega
            exact am_o54 pc q h
          ·
            obtain rfl : i = 53 := by omega
            exact am_o53 pc q h
        ·
          rcases Nat.lt_or_ge 51 i with z50_52 | z50_52
          ·
            obtain rfl : i = 52 := by omega
            exact am_o52 pc q h
          ·
            rcases Nat.lt_or_ge 50 i with z50_51 | z50_51
            ·
              obtain rfl : i = 51 := by omega
              exact am_o51 pc q h
            ·
              obtain rfl : i = 50 := by omega
              exact am_o50 pc q h
    ·
      rcases Nat.lt_or_ge 44 i with z40_49 | z40_49
      ·
        rcases Nat.lt_or_ge 47 i with z45_49 | z45_49
        ·
          rcases Nat.lt_or_ge 48 i with z48_49 | z48_49
          ·
            obtain rfl : i = 49 := by omega
            exact am_o49 pc q h
          ·
            obtain rfl : i = 48 := by omega
            exact am_o48 pc q h
        ·
          rcases Nat.lt_or_ge 46 i with z45_47 | z45_47
          ·
            obtain rfl : i = 47 := by omega
            exact am_o47 pc q h
          ·
            rcases Nat.lt_or_ge 45 i with z45_46 | z45_46
            ·
              obtain rfl : i = 46 := by omega
              exact am_o46 pc q h
            ·
              obtain rfl : i = 45 := by omega
              exact am_o45 pc q h
      ·
        rcases Nat.lt_or_ge 42 i with z40_44 | z40_44
        ·
          rcases Nat.lt_or_ge 43 i with z43_44 | z43_44
          ·
            obtain rfl : i = 44 := by omega
            exact am_o44 pc q h
          ·
            obtain rfl : i = 43 := by omega
            exact am_o43 pc q h
        ·
          rcases Nat.lt_or_ge 41 i with z40_42 | z40_42
          ·
            obtain rfl : i = 42 := by omega
            exact am_o42 pc q h
          ·
            rcases Nat.lt_or_ge 40 i with z40_41 | z40_41
            ·
              obtain rfl : i = 41 := by omega
              exact am_o41 pc q h
            ·
              obtain rfl : i = 40 := by omega
              exact am_o40 pc q h
theorem am_og80 {i : Nat} (h1 : 80 ≤ i) (h2 : i ≤ 119) (pc : Nat) (q : am_E) (h : am_tb i pc = some q) : am_oke i pc q = true := by
  rcases Nat.lt_or_ge 99 i with z80_119 | z80_119
  ·
    rcases Nat.lt_or_ge 109 i with z100_119 | z100_119
    ·
      rcases Nat.lt_or_ge 114 i with z110_119 | z110_119
      ·
        rcases Nat.lt_or_ge 117 i with z115_119 | z115_119
        ·
          rcases Nat.lt_or_ge 118 i with z118_119 | z118_119
          ·
            obtain rfl : i = 119 := by omega
            exact am_o119 pc q h
          ·
            obtain rfl : i = 118 := by omega
            exact am_o118 pc q h
        ·
          rcases Nat.lt_or_ge 116 i with z115_117 | z115_117
          ·
            obtain rfl : i = 117 := by omega
            exact am_o117 pc q h
          ·
            rcases Nat.lt_or_ge 115 i with z115_116 | z115_116
            ·
              obtain rfl : i = 116 := by omega
              exact am_o116 pc q h
            ·
              obtain rfl : i = 115 := by omega
              exact am_o115 pc q h
      ·
        rcases Nat.lt_or_ge 112 i with z110_114 | z110_114
        ·
          rcases Nat.lt_or_ge 113 i with z113_114 | z113_114
          ·
            obtain rfl : i = 114 := by omega
            exact am_o114 pc q h
          ·
            obtain rfl : i = 113 := by omega
            exact am_o113 pc q h
        ·
          rcases Nat.lt_or_ge 111 i with z110_112 | z110_112
          ·
            obtain rfl : i = 112 := by omega
            exact am_o112 pc q h
          ·
            rcases Nat.lt_or_ge 110 i with z110_111 | z110_111
            ·
              obtain rfl : i = 111 := by omega
              exact am_o111 pc q h
            ·
              obtain rfl : i = 110 := by omega
              exact am_o110 pc q h
    ·
      rcases Nat.lt_or_ge 104 i with z100_109 | z100_109
      ·
        rcases Nat.lt_or_ge 107 i with z105_109 | z105_109
        ·
          rcases Nat.lt_or_ge 108 i with z108_109 | z108_109
          ·
            obtain rfl : i = 109 := by omega
            exact am_o109 pc q h
          ·
            obtain rfl : i = 108 := by omega
            exact am_o108 pc q h
        ·
          rcases Nat.lt_or_ge 106 i with z105_107 | z105_107
          ·
            obtain rfl : i = 107 := by omega
            exact am_o107 pc q h
          ·
            rcases Nat.lt_or_ge 105 i with z105_106 | z105_106
            ·
              obtain rfl : i = 106 := by omega
              exact am_o106 pc q h
            ·
              obtain rfl : i = 105 := by omega
              exact am_o105 pc q h
      ·
        rcases Nat.lt_or_ge 102 i with z100_104 | z100_104
        ·
          rcases Nat.lt_or_ge 103 i with z103_104 | z103_104
          ·
            obtain rfl : i = 104 := by omega
            exact am_o104 pc q h
          ·
            obtain rfl : i = 103 := by omega
            exact am_o103 pc q h
        ·
          rcases Nat.lt_or_ge 101 i with z100_102 | z100_102
          ·
            obtain rfl : i = 102 := by omega
            exact am_o102 pc q h
          ·
            rcases Nat.lt_or_ge 100 i with z100_101 | z100_101
            ·
              obtain rfl : i = 101 := by omega
              exact am_o101 pc q h
            ·
              obtain rfl : i = 100 := by omega
              exact am_o100 pc q h
  ·
    rcases Nat.lt_or_ge 89 i with z80_99 | z80_99
    ·
      rcases Nat.lt_or_ge 94 i with z90_99 | z90_99
      ·
        rcases Nat.lt_or_ge 97 i with z95_99 | z95_99
        ·
          rcases Nat.lt_or_ge 98 i with z98_99 | z98_99
          ·
            obtain rfl : i = 99 := by omega
            exact am_o99 pc q h
          ·
            obtain rfl : i = 98 := by omega
            exact am_o98 pc q h
        ·
          rcases Nat.lt_or_ge 96 i with z95_97 | z95_97
          ·
            obtain rfl : i = 97 := by omega
            exact am_o97 pc q h
          ·
            rcases Nat.lt_or_ge 95 i with z95_96 | z95_96
            ·
              obtain rfl : i = 96 := by omega
              exact am_o96 pc q h
            ·
              obtain rfl : i = 95 := by omega
              exact am_o95 pc q h
      ·
        rcases Nat.lt_or_ge 92 i with z90_94 | z90_94
        ·
          rcases Nat.lt_or_ge 93 i with z93_94 | z93_94
          ·
            obtain rfl : i = 94 := by omega
            exact am_o94 pc q h
          ·
            obtain rfl : i = 93 := by omega
            exact am_o93 pc q h
        ·
          rcases Nat.lt_or_ge 91 i with z90_92 | z90_92
          ·
            obtain rfl : i = 92 := by omega
            exact am_o92 pc q h
          ·
            rcases Nat.lt_or_ge 90 i with z90_91 | z90_91
            ·
              obtain rfl : i = 91 := by omega
              exact am_o91 pc q h
            ·
              obtain rfl : i = 90 := by omega
              exact am_o90 pc q h
    ·
      rcases Nat.lt_or_ge 84 i with z80_89 | z80_89
      ·
        rcases Nat.lt_or_ge 87 i with z85_89 | z85_89
        ·
          rcases Nat.lt_or_ge 88 i with z88_89 | z88_89
          ·
            obtain rfl : i = 89 := by omega
            exact am_o89 pc q h
          ·
            obtain rfl : i = 88 := by omega
            exact am_o88 pc q h
        ·
          rcases Nat.lt_or_ge 86 i with z85_87 | z85_87
          ·
            obtain rfl : i = 87 := by omega
            exact am_o87 pc q h
          ·
            rcases Nat.lt_or_ge 85 i with z85_86 | z85_86
            ·
              obtain rfl : i = 86 := by omega
              exact am_o86 pc q h
            ·
              obtain rfl : i = 85 := by omega
              exact am_o85 pc q h
      ·
        rcases Nat.lt_or_ge 82 i with z80_84 | z80_84
        ·
          rcases Nat.lt_or_ge 83 i with z83_84 | z83_84
          ·
            obtain rfl : i = 84 := by omega
            exact am_o84 pc q h
          ·
            obtain rfl : i = 83 := by omega
            exact am_o83 pc q h
        ·
          rcases Nat.lt_or_ge 81 i with z80_82 | z80_82
          ·
            obtain rfl : i = 82 := by omega
            exact am_o82 pc q h
          ·
            rcases Nat.lt_or_ge 80 i with z80_81 | z80_81
            ·
              obtain rfl : i = 81 := by omega
              exact am_o81 pc q h
            ·
              obtain rfl : i = 80 := by omega
              exact am_o80 pc q h
theorem am_og120 {i : Nat} (h1 : 120 ≤ i) (h2 : i ≤ 159) (pc : Nat) (q : am_E) (h : am_tb i pc = some q) : am_oke i pc q = true := by
  rcases Nat.lt_or_ge 139 i with z120_159 | z120_159
  ·
    rcases Nat.lt_or_ge 149 i with z140_159 | z140_159
    ·
      rcases Nat.lt_or_ge 154 i with z150_159 | z150_159
      ·
        rcases Nat.lt_or_ge 157 i with z155_159 | z155_159
        ·
          rcases Nat.lt_or_ge 158 i with z158_159 | z158_159
          ·
            obtain rfl : i = 159 := by omega
            exact am_o159 pc q h
          ·
            obtain rfl : i = 158 := by omega
            exact am_o158 pc q h
        ·
          rcases Nat.lt_or_ge 156 i with z155_157 | z155_157
          ·
            obtain rfl : i = 157 := by omega
            exact am_o157 pc q h
          ·
            rcases Nat.lt_or_ge 155 i with z155_156 | z155_156
            ·
              obtain rfl : i = 156 := by omega
              exact am_o156 pc q h
            ·
              obtain rfl : i = 155 := by omega
              exact am_o155 pc q h
      ·
        rcases Nat.lt_or_ge 152 i with z150_154 | z150_154
        ·
          rcases Nat.lt_or_ge 153 i with z153_154 | z153_154
          ·
            obtain rfl : i = 154 := by omega
            exact am_o154 pc q h
          ·
            obtain rfl : i = 153 := by omega
            exact am_o153 pc q h
        ·
          rcases Nat.lt_or_ge 151 i with z150_152 | z150_152
          ·
            obtain rfl : i = 152 := by omega
            exact am_o152 pc q h
          ·
            rcases Nat.lt_or_ge 150 i with z150_151 | z150_151
            ·
              obtain rfl : i = 151 := by omega
              exact am_o151 pc q h
            ·
              obtain rfl : i = 150 := by omega
              exact am_o150 pc q h
    ·
      rcases Nat.lt_or_ge 144 i with z140_149 | z140_149
      ·
        rcases Nat.lt_or_ge 147 i with z145_149 | z145_149
        ·
          rcases Nat.lt_or_ge 148 i with z148_149 | z148_149
          ·
            obtain rfl : i = 149 := by omega
            exact am_o149 pc q h
          ·
            obtain rfl : i = 148 := by omega
            exact am_o148 pc q h
        ·
          rcases Nat.lt_or_ge 146 i with z145_147 | z145_147
          ·
            obtain rfl : i = 147 := by omega
            exact am_o147 pc q h
          ·
            rcases Nat.lt_or_ge 145 i with z145_146 | z145_146
            ·
              obtain rfl : i = 146 := by omega
              exact am_o146 pc q h
            ·
              obtain rfl : i = 145 := by omega
              exact am_o145 pc q h
      ·
        rcases Nat.lt_or_ge 142 i with z140_144 | z140_144
        ·
          rcases Nat.lt_or_ge 143 i with z143_144 | z143_144
          ·
            obtain rfl : i = 144 := by omega
            exact am_o144 pc q h
          ·
            obtain rfl : i = 143 := by omega
            exact am_o143 pc q h
        ·
          rcases Nat.lt_or_ge 141 i with z140_142 | z140_142
          ·
            obtain rfl : i = 142 := by omega
            exact am_o142 pc q h
          ·
            rcases Nat.lt_or_ge 140 i with z140_141 | z140_141
            ·
              obtain rfl : i = 141 := by omega
              exact am_o141 pc q h
            ·
              obtain rfl : i = 140 := by omega
              exact am_o140 pc q h
  ·
    rcases Nat.lt_or_ge 129 i with z120_139 | z120_139
    ·
      rcases Nat.lt_or_ge 134 i with z130_139 | z130_139
      ·
        rcases Nat.lt_or_ge 137 i with z135_139 | z135_139
        ·
          rcases Nat.lt_or_ge 138 i with z138_139 | z138_139
          ·
            obtain rfl : i = 139 := by omega
            exact am_o139 pc q h
          ·
            obtain rfl : i = 138 := by omega
            exact am_o138 pc q h
        ·
          rcases Nat.lt_or_ge 136 i with z135_137 | z135_137
          ·
            obtain rfl : i = 137 := by omega
            exact am_o137 pc q h
          ·
            rcases Nat.lt_or_ge 135 i with z135_136 | z135_136
            ·
              obtain rfl : i = 136 := by omega
              exact am_o136 pc q h
            ·
              obtain rfl : i = 135 := by omega
              exact am_o135 pc q h
      ·
        rcases Nat.lt_or_ge 132 i with z130_134 | z130_134
        ·
          rcases Nat.lt_or_ge 133 i with z133_134 | z133_134
          ·
            obtain rfl : i = 134 := by omega
            exact am_o134 pc q h
          ·
            obtain rfl : i = 133 := by omega
            exact am_o133 pc q h
        ·
          rcases Nat.lt_or_ge 131 i with z130_132 | z130_132
          ·
            obtain rfl : i = 132 := by omega
            exact am_o132 pc q h
          ·
            rcases Nat.lt_or_ge 130 i with z130_131 | z130_131
            ·
              obtain rfl : i = 131 := by omega
              exact am_o131 pc q h
            ·
              obtain rfl : i = 130 := by omega
              exact am_o130 pc q h
    ·
      rcases Nat.lt_or_ge 124 i with z120_129 | z120_129
      ·
        rcases Nat.lt_or_ge 127 i with z125_129 | z125_129
        ·
          rcases Nat.lt_or_ge 128 i with z128_129 | z128_129
          ·
            obtain rfl : i = 129 := by omega
            exact am_o129 pc q h
          ·
            obtain rfl : i = 128 := by omega
            exact am_o128 pc q h
        ·
          rcases Nat.lt_or_ge 126 i with z125_127 | z125_127
          ·
            obtain rfl : i = 127 := by omega
            exact am_o127 pc q h
          ·
            rcases Nat.lt_or_ge 125 i with z125_126 | z125_126
            ·
              obtain rfl : i = 126 := by omega
              exact am_o126 pc q h
            ·
              obtain rfl : i = 125 := by omega
              exact am_o125 pc q h
      ·
        rcases Nat.lt_or_ge 122 i with z120_124 | z120_124
        ·
          rcases Nat.lt_or_ge 123 i with z123_124 | z123_124
          ·
            obtain rfl : i = 124 := by omega
            exact am_o124 pc q h
          ·
            obtain rfl : i = 123 := by omega
            exact am_o123 pc q h
        ·
          rcases Nat.lt_or_ge 121 i with z120_122 | z120_122
          ·
            obtain rfl : i = 122 := by omega
            exact am_o122 pc q h
          ·
            rcases Nat.lt_or_ge 120 i with z120_121 | z120_121
            ·
              obtain rfl : i = 121 := by omega
              exact am_o121 pc q h
            ·
              obtain rfl : i = 120 := by omega
              exact am_o120 pc q h
theorem am_og160 {i : Nat} (h1 : 160 ≤ i) (h2 : i ≤ 199) (pc : Nat) (q : am_E) (h : am_tb i pc = some q) : am_oke i pc q = true := by
  rcases Nat.lt_or_ge 179 i with z160_199 | z160_199
  ·
    rcases Nat.lt_or_ge 189 i with z180_199 | z180_199
    ·
      rcases Nat.lt_or_ge 194 i with z190_199 | z190_199
      ·
        rcases Nat.lt_or_ge 197 i with z195_199 | z195_199
        ·
          rcases Nat.lt_or_ge 198 i with z198_199 | z198_199
          ·
            obtain rfl : i = 199 := by omega
            exact am_o199 pc q h
          ·
            obtain rfl : i = 198 := by omega
            exact am_o198 pc q h
        ·
          rcases Nat.lt_or_ge 196 i with z195_197 | z195_197
          ·
            obtain rfl : i = 197 := by omega
            exact am_o197 pc q h
          ·
            rcases Nat.lt_or_ge 195 i with z195_196 | z195_196
            ·
              obtain rfl : i = 196 := by omega
              exact am_o196 pc q h
            ·
              obtain rfl : i = 195 := by omega
              exact am_o195 pc q h
      ·
        rcases Nat.lt_or_ge 192 i with z190_194 | z190_194
        ·
          rcases Nat.lt_or_ge 193 i with z193_194 | z193_194
          ·
            obtain rfl : i = 194 := by omega
            exact am_o194 pc q h
          ·
            obtain rfl : i = 193 := by omega
            exact am_o193 pc q h
        ·
          rcases Nat.lt_or_ge 191 i with z190_192 | z190_192
          ·
            obtain rfl : i = 192 := by omega
            exact am_o192 pc q h
          ·
            rcases Nat.lt_or_ge 190 i with z190_191 | z190_191
            ·
              obtain rfl : i = 191 := by omega
              exact am_o191 pc q h
            ·
              obtain rfl : i = 190 := by omega
              exact am_o190 pc q h
    ·
      rcases Nat.lt_or_ge 184 i with z180_189 | z180_189
      ·
        rcases Nat.lt_or_ge 187 i with z185_189 | z185_189
        ·
          rcases Nat.lt_or_ge 188 i with z188_189 | z188_189
          ·
            obtain rfl : i = 189 := by omega
            exact am_o189 pc q h
          ·
            obtain rfl : i = 188 := by omega
            exact am_o188 pc q h
        ·
          rcases Nat.lt_or_ge 186 i with z185_187 | z185_187
          ·
            obtain rfl : i = 187 := by omega
            exact am_o187 pc q h
          ·
            rcases Nat.lt_or_ge 185 i with z185_186 | z185_186
            ·
              obtain rfl : i = 186 := by omega
              exact am_o186 pc q h
            ·
              obtain rfl : i = 185 := by omega
              exact am_o185 pc q h
      ·
        rcases Nat.lt_or_ge 182 i with z180_184 | z180_184
        ·
          rcases Nat.lt_or_ge 183 i with z183_184 | z183_184
          ·
            obtain rfl : i = 184 := by omega
            exact am_o184 pc q h
          ·
            obtain rfl : i = 183 := by omega
            exact am_o183 pc q h
        ·
          rcases Nat.lt_or_ge 181 i with z180_182 | z180_182
          ·
            obtain rfl : i = 182 := by omega
            exact am_o182 pc q h
          ·
            rcases Nat.lt_or_ge 180 i with z180_181 | z180_181
            ·
              obtain rfl : i = 181 := by omega
              exact am_o181 pc q h
            ·
              obtain rfl : i = 180 := by omega
              exact am_o180 pc q h
  ·
    rcases Nat.lt_or_ge 169 i with z160_179 | z160_179
    ·
      rcases Nat.lt_or_ge 174 i with z170_179 | z170_179
      ·
        rcases Nat.lt_or_ge 177 i with z175_179 | z175_179
        ·
          rcases Nat.lt_or_ge 178 i with z178_179 | z178_179
          ·
            obtain rfl : i = 179 := by omega
            exact am_o179 pc q h
          ·
            obtain rfl : i = 178 := by omega
            exact am_o178 pc q h
        ·
          rcases Nat.lt_or_ge 176 i with z175_177 | z175_177
          ·
            obtain rfl : i = 177 := by omega
            exact am_o177 pc q h
          ·
            rcases Nat.lt_or_ge 175 i with z175_176 | z175_176
            ·
              obtain rfl : i = 176 := by omega
              exact am_o176 pc q h
            ·
              obtain rfl : i = 175 := by omega
              exact am_o175 pc q h
      ·
        rcases Nat.lt_or_ge 172 i with z170_174 | z170_174
        ·
          rcases Nat.lt_or_ge 173 i with z173_174 | z173_174
          ·
            obtain rfl : i = 174 := by omega
            exact am_o174 pc q h
          ·
            obtain rfl : i = 173 := by omega
            exact am_o173 pc q h
        ·
          rcases Nat.lt_or_ge 171 i with z170_172 | z170_172
          ·
            obtain rfl : i = 172 := by omega
            exact am_o172 pc q h
          ·
            rcases Nat.lt_or_ge 170 i with z170_171 | z170_171
            ·
              obtain rfl : i = 171 := by omega
              exact am_o171 pc q h
            ·
              obtain rfl : i = 170 := by omega
              exact am_o170 pc q h
    ·
      rcases Nat.lt_or_ge 164 i with z160_169 | z160_169
      ·
        rcases Nat.lt_or_ge 167 i with z165_169 | z165_169
        ·
          rcases Nat.lt_or_ge 168 i with z168_169 | z168_169
          ·
            obtain rfl : i = 169 := by omega
            exact am_o169 pc q h
          ·
            obtain rfl : i = 168 := by omega
            exact am_o168 pc q h
        ·
          rcases Nat.lt_or_ge 166 i with z165_167 | z165_167
          ·
            obtain rfl : i = 167 := by omega
            exact am_o167 pc q h
          ·
            rcases Nat.lt_or_ge 165 i with z165_166 | z165_166
            ·
              obtain rfl : i = 166 := by omega
              exact am_o166 pc q h
            ·
              obtain rfl : i = 165 := by omega
              exact am_o165 pc q h
      ·
        rcases Nat.lt_or_ge 162 i with z160_164 | z160_164
        ·
          rcases Nat.lt_or_ge 163 i with z163_164 | z163_164
          ·
            obtain rfl : i = 164 := by omega
            exact am_o164 pc q h
          ·
            obtain rfl : i = 163 := by omega
            exact am_o163 pc q h
        ·
          rcases Nat.lt_or_ge 161 i with z160_162 | z160_162
          ·
            obtain rfl : i = 162 := by omega
            exact am_o162 pc q h
          ·
            rcases Nat.lt_or_ge 160 i with z160_161 | z160_161
            ·
              obtain rfl : i = 161 := by omega
              exact am_o161 pc q h
            ·
              obtain rfl : i = 160 := by omega
              exact am_o160 pc q h
theorem am_og200 {i : Nat} (h1 : 200 ≤ i) (h2 : i ≤ 239) (pc : Nat) (q : am_E) (h : am_tb i pc = some q) : am_oke i pc q = true := by
  rcases Nat.lt_or_ge 219 i with z200_239 | z200_239
  ·
    rcases Nat.lt_or_ge 229 i with z220_239 | z220_239
    ·
      rcases Nat.lt_or_ge 234 i with z230_239 | z230_239
      ·
        rcases Nat.lt_or_ge 237 i with z235_239 | z235_239
        ·
          rcases Nat.lt_or_ge 238 i with z238_239 | z238_239
          ·
            obtain rfl : i = 239 := by omega
            exact am_o239 pc q h
          ·
            obtain rfl : i = 238 := by omega
            exact am_o238 pc q h
        ·
          rcases Nat.lt_or_ge 236 i with z235_237 | z235_237
          ·
            obtain rfl : i = 237 := by omega
            exact am_o237 pc q h
          ·
            rcases Nat.lt_or_ge 235 i with z235_236 | z235_236
            ·
              obtain rfl : i = 236 := by omega
              exact am_o236 pc q h
            ·
              obtain rfl : i = 235 := by omega
              exact am_o235 pc q h
      ·
        rcases Nat.lt_or_ge 232 i with z230_234 | z230_234
        ·
          rcases Nat.lt_or_ge 233 i with z233_234 | z233_234
          ·
            obtain rfl : i = 234 := by omega
            exact am_o234 pc q h
          ·
            obtain rfl : i = 233 := by omega
            exact am_o233 pc q h
        ·
          rcases Nat.lt_or_ge 231 i with z230_232 | z230_232
          ·
            obtain rfl : i = 232 := by omega
            exact am_o232 pc q h
          ·
            rcases Nat.lt_or_ge 230 i with z230_231 | z230_231
            ·
              obtain rfl : i = 231 := by omega
              exact am_o231 pc q h
            ·
              obtain rfl : i = 230 := by omega
              exact am_o230 pc q h
    ·
      rcases Nat.lt_or_ge 224 i with z220_229 | z220_229
      ·
        rcases Nat.lt_or_ge 227 i with z225_229 | z225_229
        ·
          rcases Nat.lt_or_ge 228 i with z228_229 | z228_229
          ·
            obtain rfl : i = 229 := by omega
            exact am_o229 pc q h
          ·
            obtain rfl : i = 228 := by omega
            exact am_o228 pc q h
        ·
          rcases Nat.lt_or_ge 226 i with z225_227 | z225_227
          ·
            obtain rfl : i = 227 := by omega
            exact am_o227 pc q h
          ·
            rcases Nat.lt_or_ge 225 i with z225_226 | z225_226
            ·
              obtain rfl : i = 226 := by omega
              exact am_o226 pc q h
            ·
              obtain rfl : i = 225 := by omega
              exact am_o225 pc q h
      ·
        rcases Nat.lt_or_ge 222 i with z220_224 | z220_224
        ·
          rcases Nat.lt_or_ge 223 i with z223_224 | z223_224
          ·
            obtain rfl : i = 224 := by omega
            exact am_o224 pc q h
          ·
            obtain rfl : i = 223 := by omega
            exact am_o223 pc q h
        ·
          rcases Nat.lt_or_ge 221 i with z220_222 | z220_222
          ·
            obtain rfl : i = 222 := by omega
            exact am_o222 pc q h
          ·
            rcases Nat.lt_or_ge 220 i with z220_221 | z220_221
            ·
              obtain rfl : i = 221 := by omega
              exact am_o221 pc q h
            ·
              obtain rfl : i = 220 := by omega
              exact am_o220 pc q h
  ·
    rcases Nat.lt_or_ge 209 i with z200_219 | z200_219
    ·
      rcases Nat.lt_or_ge 214 i with z210_219 | z210_219
      ·
        rcases Nat.lt_or_ge 217 i with z215_219 | z215_219
        ·
          rcases Nat.lt_or_ge 218 i with z218_219 | z218_219
          ·
            obtain rfl : i = 219 := by omega
            exact am_o219 pc q h
          ·
            obtain rfl : i = 218 := by omega
            exact am_o218 pc q h
        ·
          rcases Nat.lt_or_ge 216 i with z215_217 | z215_217
          ·
            obtain rfl : i = 217 := by omega
            exact am_o217 pc q h
          ·
            rcases Nat.lt_or_ge 215 i with z215_216 | z215_216
            ·
              obtain rfl : i = 216 := by omega
              exact am_o216 pc q h
            ·
              obtain rfl : i = 215 := by omega
              exact am_o215 pc q h
      ·
        rcases Nat.lt_or_ge 212 i with z210_214 | z210_214
        ·
          rcases Nat.lt_or_ge 213 i with z213_214 | z213_214
          ·
            obtain rfl : i = 214 := by omega
            exact am_o214 pc q h
          ·
            obtain rfl : i = 213 := by omega
            exact am_o213 pc q h
        ·
          rcases Nat.lt_or_ge 211 i with z210_212 | z210_212
          ·
            obtain rfl : i = 212 := by omega
            exact am_o212 pc q h
          ·
            rcases Nat.lt_or_ge 210 i with z210_211 | z210_211
            ·
              obtain rfl : i = 211 := by omega
              exact am_o211 pc q h
            ·
              obtain rfl : i = 210 := by omega
              exact am_o210 pc q h
    ·
      rcases Nat.lt_or_ge 204 i with z200_209 | z200_209
      ·
        rcases Nat.lt_or_ge 207 i with z205_209 | z205_209
        ·
          rcases Nat.lt_or_ge 208 i with z208_209 | z208_209
          ·
            obtain rfl : i = 209 := by omega
            exact am_o209 pc q h
          ·
            obtain rfl : i = 208 := by omega
            exact am_o208 pc q h
        ·
          rcases Nat.lt_or_ge 206 i with z205_207 | z205_207
          ·
            obtain rfl : i = 207 := by omega
            exact am_o207 pc q h
          ·
            rcases Nat.lt_or_ge 205 i with z205_206 | z205_206
            ·
              obtain rfl : i = 206 := by omega
              exact am_o206 pc q h
            ·
              obtain rfl : i = 205 := by omega
              exact am_o205 pc q h
      ·
        rcases Nat.lt_or_ge 202 i with z200_204 | z200_204
        ·
          rcases Nat.lt_or_ge 203 i with z203_204 | z203_204
          ·
            obtain rfl : i = 204 := by omega
            exact am_o204 pc q h
          ·
            obtain rfl : i = 203 := by omega
            exact am_o203 pc q h
        ·
          rcases Nat.lt_or_ge 201 i with z200_202 | z200_202
          ·
            obtain rfl : i = 202 := by omega
            exact am_o202 pc q h
          ·
            rcases Nat.lt_or_ge 200 i with z200_201 | z200_201
            ·
              obtain rfl : i = 201 := by omega
              exact am_o201 pc q h
            ·
              obtain rfl : i = 200 := by omega
              exact am_o200 pc q h
theorem am_og240 {i : Nat} (h1 : 240 ≤ i) (h2 : i ≤ 279) (pc : Nat) (q : am_E) (h : am_tb i pc = some q) : am_oke i pc q = true := by
  rcases Nat.lt_or_ge 259 i with z240_279 | z240_279
  ·
    rcases Nat.lt_or_ge 269 i with z260_279 | z260_279
    ·
      rcases Nat.lt_or_ge 274 i with z270_279 | z270_279
      ·
        rcases Nat.lt_or_ge 277 i with z275_279 | z275_279
        ·
          rcases Nat.lt_or_ge 278 i with z278_279 | z278_279
          ·
            obtain rfl : i = 279 := by omega
            exact am_o279 pc q h
          ·
            obtain rfl : i = 278 := by omega
            exact am_o278 pc q h
        ·
          rcases Nat.lt_or_ge 276 i with z275_277 | z275_277
          ·
            obtain rfl : i = 277 := by omega
            exact am_o277 pc q h
          ·
            rcases Nat.lt_or_ge 275 i with z275_276 | z275_276
            ·
              obtain rfl : i = 276 := by omega
              exact am_o276 pc q h
            ·
              obtain rfl : i = 275 := by omega
              exact am_o275 pc q h
      ·
        rcases Nat.lt_or_ge 272 i with z270_274 | z270_274
        ·
          rcases Nat.lt_or_ge 273 i with z273_274 | z273_274
          ·
            obtain rfl : i = 274 := by omega
            exact am_o274 pc q h
          ·
            obtain rfl : i = 273 := by omega
            exact am_o273 pc q h
        ·
          rcases Nat.lt_or_ge 271 i with z270_272 | z270_272
          ·
            obtain rfl : i = 272 := by omega
            exact am_o272 pc q h
          ·
            rcases Nat.lt_or_ge 270 i with z270_271 | z270_271
            ·
              obtain rfl : i = 271 := by omega
              exact am_o271 pc q h
            ·
              obtain rfl : i = 270 := by omega
              exact am_o270 pc q h
    ·
      rcases Nat.lt_or_ge 264 i with z260_269 | z260_269
      ·
        rcases Nat.lt_or_ge 267 i with z265_269 | z265_269
        ·
          rcases Nat.lt_or_ge 268 i with z268_269 | z268_269
          ·
            obtain rfl : i = 269 := by omega
            exact am_o269 pc q h
          ·
            obtain rfl : i = 268 := by omega
            exact am_o268 pc q h
        ·
          rcases Nat.lt_or_ge 266 i with z265_267 | z265_267
          ·
            obtain rfl : i = 267 := by omega
            exact am_o267 pc q h
          ·
            rcases Nat.lt_or_ge 265 i with z265_266 | z265_266
            ·
              obtain rfl : i = 266 := by omega
              exact am_o266 pc q h
            ·
              obtain rfl : i = 265 := by omega
              exact am_o265 pc q h
      ·
        rcases Nat.lt_or_ge 262 i with z260_264 | z260_264
        ·
          rcases Nat.lt_or_ge 263 i with z263_264 | z263_264
          ·
            obtain rfl : i = 264 := by omega
            exact am_o264 pc q h
          ·
            obtain rfl : i = 263 := by omega
            exact am_o263 pc q h
        ·
          rcases Nat.lt_or_ge 261 i with z260_262 | z260_262
          ·
            obtain rfl : i = 262 := by omega
            exact am_o262 pc q h
          ·
            rcases Nat.lt_or_ge 260 i with z260_261 | z260_261
            ·
              obtain rfl : i = 261 := by omega
              exact am_o261 pc q h
            ·
              obtain rfl : i = 260 := by omega
              exact am_o260 pc q h
  ·
    rcases Nat.lt_or_ge 249 i with z240_259 | z240_259
    ·
      rcases Nat.lt_or_ge 254 i with z250_259 | z250_259
      ·
        rcases Nat.lt_or_ge 257 i with z255_259 | z255_259
        ·
          rcases Nat.lt_or_ge 258 i with z258_259 | z258_259
          ·
            obtain rfl : i = 259 := by omega
            exact am_o259 pc q h
          ·
            obtain rfl : i = 258 := by omega
            exact am_o258 pc q h
        ·
          rcases Nat.lt_or_ge 256 i with z255_257 | z255_257
          ·
            obtain rfl : i = 257 := by omega
            exact am_o257 pc q h
          ·
            rcases Nat.lt_or_ge 255 i with z255_256 | z255_256
            ·
              obtain rfl : i = 256 := by omega
              exact am_o256 pc q h
            ·
              obtain rfl : i = 255 := by omega
              exact am_o255 pc q h
      ·
        rcases Nat.lt_or_ge 252 i with z250_254 | z250_254
        ·
          rcases Nat.lt_or_ge 253 i with z253_254 | z253_254
          ·
            obtain rfl : i = 254 := by omega
            exact am_o254 pc q h
          ·
            obtain rfl : i = 253 := by omega
            exact am_o253 pc q h
        ·
          rcases Nat.lt_or_ge 251 i with z250_252 | z250_252
          ·
            obtain rfl : i = 252 := by omega
            exact am_o252 pc q h
          ·
            rcases Nat.lt_or_ge 250 i with z250_251 | z250_251
            ·
              obtain rfl : i = 251 := by omega
              exact am_o251 pc q h
            ·
              obtain rfl : i = 250 := by omega
              exact am_o250 pc q h
    ·
      rcases Nat.lt_or_ge 244 i with z240_249 | z240_249
      ·
        rcases Nat.lt_or_ge 247 i with z245_249 | z245_249
        ·
          rcases Nat.lt_or_ge 248 i with z248_249 | z248_249
          ·
            obtain rfl : i = 249 := by omega
            exact am_o249 pc q h
          ·
            obtain rfl : i = 248 := by omega
            exact am_o248 pc q h
        ·
          rcases Nat.lt_or_ge 246 i with z245_247 | z245_247
          ·
            obtain rfl : i = 247 := by omega
            exact am_o247 pc q h
          ·
            rcases Nat.lt_or_ge 245 i with z245_246 | z245_246
            ·
              obtain rfl : i = 246 := by omega
              exact am_o246 pc q h
            ·
              obtain rfl : i = 245 := by omega
              exact am_o245 pc q h
      ·
        rcases Nat.lt_or_ge 242 i with z240_244 | z240_244
        ·
          rcases Nat.lt_or_ge 243 i with z243_244 | z243_244
          ·
            obtain rfl : i = 244 := by omega
            exact am_o244 pc q h
          ·
            obtain rfl : i = 243 := by omega
            exact am_o243 pc q h
        ·
          rcases Nat.lt_or_ge 241 i with z240_242 | z240_242
          ·
            obtain rfl : i = 242 := by omega
            exact am_o242 pc q h
          ·
            rcases Nat.lt_or_ge 240 i with z240_241 | z240_241
            ·
              obtain rfl : i = 241 := by omega
              exact am_o241 pc q h
            ·
              obtain rfl : i = 240 := by omega
              exact am_o240 pc q h
theorem am_og280 {i : Nat} (h1 : 280 ≤ i) (h2 : i ≤ 280) (pc : Nat) (q : am_E) (h : am_tb i pc = some q) : am_oke i pc q = true := by
  obtain rfl : i = 280 := by omega
  exact am_o280 pc q h
theorem am_oki {i : Nat} (hi : i < 281) {pc : Nat} {q : am_E} (h : am_tb i pc = some q) : am_oke i pc q = true := by
  rcases Nat.lt_or_ge 39 i with z0 | z0
  rotate_left
  · exact am_og0 (by omega) z0 pc q h
  rcases Nat.lt_or_ge 79 i with z40 | z40
  rotate_left
  · exact am_og40 (by omega) z40 pc q h
  rcases Nat.lt_or_ge 119 i with z80 | z80
  rotate_left
  · exact am_og80 (by omega) z80 pc q h
  rcases Nat.lt_or_ge 159 i with z120 | z120
  rotate_left
  · exact am_og120 (by omega) z120 pc q h
  rcases Nat.lt_or_ge 199 i with z160 | z160
  rotate_left
  · exact am_og160 (by omega) z160 pc q h
  rcases Nat.lt_or_ge 239 i with z200 | z200
  rotate_left
  · exact am_og200 (by omega) z200 pc q h
  rcases Nat.lt_or_ge 279 i with z240 | z240
  rotate_left
  · exact am_og240 (by omega) z240 pc q h
  exact am_og280 (by omega) (by omega) pc q h
