theorem am_k0_0 : am_ck 0 0 45 = true := by decide +kernel
theorem am_o0 (pc : Nat) (q : am_E) (h : am_tb 0 pc = some q) : am_oke 0 pc q = true := am_okr_all (n := 44) (am_ck_ok am_k0_0) (fun _ => rfl) h
theorem am_k1_0 : am_ck 1 0 36 = true := by decide +kernel
theorem am_o1 (pc : Nat) (q : am_E) (h : am_tb 1 pc = some q) : am_oke 1 pc q = true := am_okr_all (n := 35) (am_ck_ok am_k1_0) (fun _ => rfl) h
theorem am_k2_0 : am_ck 2 0 25 = true := by decide +kernel
theorem am_o2 (pc : Nat) (q : am_E) (h : am_tb 2 pc = some q) : am_oke 2 pc q = true := am_okr_all (n := 24) (am_ck_ok am_k2_0) (fun _ => rfl) h
theorem am_k3_0 : am_ck 3 0 100 = true := by decide +kernel
theorem am_k3_100 : am_ck 3 100 15 = true := by decide +kernel
theorem am_o3 (pc : Nat) (q : am_E) (h : am_tb 3 pc = some q) : am_oke 3 pc q = true := am_okr_all (n := 114) ((am_okr_app (am_ck_ok am_k3_0) (am_ck_ok am_k3_100))) (fun _ => rfl) h
theorem am_k4_0 : am_ck 4 0 24 = true := by decide +kernel
theorem am_o4 (pc : Nat) (q : am_E) (h : am_tb 4 pc = some q) : am_oke 4 pc q = true := am_okr_all (n := 23) (am_ck_ok am_k4_0) (fun _ => rfl) h
theorem am_k5_0 : am_ck 5 0 45 = true := by decide +kernel
theorem am_o5 (pc : Nat) (q : am_E) (h : am_tb 5 pc = some q) : am_oke 5 pc q = true := am_okr_all (n := 44) (am_ck_ok am_k5_0) (fun _ => rfl) h
theorem am_k6_0 : am_ck 6 0 19 = true := by decide +kernel
theorem am_o6 (pc : Nat) (q : am_E) (h : am_tb 6 pc = some q) : am_oke 6 pc q = true := am_okr_all (n := 18) (am_ck_ok am_k6_0) (fun _ => rfl) h
theorem am_k7_0 : am_ck 7 0 100 = true := by decide +kernel
theorem am_k7_100 : am_ck 7 100 80 = true := by decide +kernel
theorem am_o7 (pc : Nat) (q : am_E) (h : am_tb 7 pc = some q) : am_oke 7 pc q = true := am_okr_all (n := 179) ((am_okr_app (am_ck_ok am_k7_0) (am_ck_ok am_k7_100))) (fun _ => rfl) h
theorem am_k8_0 : am_ck 8 0 100 = true := by decide +kernel
theorem am_k8_100 : am_ck 8 100 87 = true := by decide +kernel
theorem am_o8 (pc : Nat) (q : am_E) (h : am_tb 8 pc = some q) : am_oke 8 pc q = true := am_okr_all (n := 186) ((am_okr_app (am_ck_ok am_k8_0) (am_ck_ok am_k8_100))) (fun _ => rfl) h
theorem am_k9_0 : am_ck 9 0 54 = true := by decide +kernel
theorem am_o9 (pc : Nat) (q : am_E) (h : am_tb 9 pc = some q) : am_oke 9 pc q = true := am_okr_all (n := 53) (am_ck_ok am_k9_0) (fun _ => rfl) h
theorem am_k10_0 : am_ck 10 0 67 = true := by decide +kernel
theorem am_o10 (pc : Nat) (q : am_E) (h : am_tb 10 pc = some q) : am_oke 10 pc q = true := am_okr_all (n := 66) (am_ck_ok am_k10_0) (fun _ => rfl) h
theorem am_k11_0 : am_ck 11 0 65 = true := by decide +kernel
theorem am_o11 (pc : Nat) (q : am_E) (h : am_tb 11 pc = some q) : am_oke 11 pc q = true := am_okr_all (n := 64) (am_ck_ok am_k11_0) (fun _ => rfl) h
theorem am_k12_0 : am_ck 12 0 19 = true := by decide +kernel
theorem am_o12 (pc : Nat) (q : am_E) (h : am_tb 12 pc = some q) : am_oke 12 pc q = true := am_okr_all (n := 18) (am_ck_ok am_k12_0) (fun _ => rfl) h
theorem am_k13_0 : am_ck 13 0 30 = true := by decide +kernel
theorem am_o13 (pc : Nat) (q : am_E) (h : am_tb 13 pc = some q) : am_oke 13 pc q = true := am_okr_all (n := 29) (am_ck_ok am_k13_0) (fun _ => rfl) h
theorem am_k14_0 : am_ck 14 0 15 = true := by decide +kernel
theorem am_o14 (pc : Nat) (q : am_E) (h : am_tb 14 pc = some q) : am_oke 14 pc q = true := am_okr_all (n := 14) (am_ck_ok am_k14_0) (fun _ => rfl) h
theorem am_k15_0 : am_ck 15 0 100 = true := by decide +kernel
theorem am_k15_100 : am_ck 15 100 100 = true := by decide +kernel
theorem am_k15_200 : am_ck 15 200 18 = true := by decide +kernel
theorem am_o15 (pc : Nat) (q : am_E) (h : am_tb 15 pc = some q) : am_oke 15 pc q = true := am_okr_all (n := 217) ((am_okr_app (am_okr_app (am_ck_ok am_k15_0) (am_ck_ok am_k15_100)) (am_ck_ok am_k15_200))) (fun _ => rfl) h
theorem am_k16_0 : am_ck 16 0 100 = true := by decide +kernel
theorem am_k16_100 : am_ck 16 100 100 = true := by decide +kernel
theorem am_k16_200 : am_ck 16 200 76 = true := by decide +kernel
theorem am_o16 (pc : Nat) (q : am_E) (h : am_tb 16 pc = some q) : am_oke 16 pc q = true := am_okr_all (n := 275) ((am_okr_app (am_okr_app (am_ck_ok am_k16_0) (am_ck_ok am_k16_100)) (am_ck_ok am_k16_200))) (fun _ => rfl) h
theorem am_k17_0 : am_ck 17 0 18 = true := by decide +kernel
theorem am_o17 (pc : Nat) (q : am_E) (h : am_tb 17 pc = some q) : am_oke 17 pc q = true := am_okr_all (n := 17) (am_ck_ok am_k17_0) (fun _ => rfl) h
theorem am_k18_0 : am_ck 18 0 6 = true := by decide +kernel
theorem am_o18 (pc : Nat) (q : am_E) (h : am_tb 18 pc = some q) : am_oke 18 pc q = true := am_okr_all (n := 5) (am_ck_ok am_k18_0) (fun _ => rfl) h
theorem am_k19_0 : am_ck 19 0 100 = true := by decide +kernel
theorem am_k19_100 : am_ck 19 100 32 = true := by decide +kernel
theorem am_o19 (pc : Nat) (q : am_E) (h : am_tb 19 pc = some q) : am_oke 19 pc q = true := am_okr_all (n := 131) ((am_okr_app (am_ck_ok am_k19_0) (am_ck_ok am_k19_100))) (fun _ => rfl) h
theorem am_k20_0 : am_ck 20 0 93 = true := by decide +kernel
theorem am_o20 (pc : Nat) (q : am_E) (h : am_tb 20 pc = some q) : am_oke 20 pc q = true := am_okr_all (n := 92) (am_ck_ok am_k20_0) (fun _ => rfl) h
theorem am_k21_0 : am_ck 21 0 14 = true := by decide +kernel
theorem am_o21 (pc : Nat) (q : am_E) (h : am_tb 21 pc = some q) : am_oke 21 pc q = true := am_okr_all (n := 13) (am_ck_ok am_k21_0) (fun _ => rfl) h
theorem am_k22_0 : am_ck 22 0 100 = true := by decide +kernel
theorem am_k22_100 : am_ck 22 100 83 = true := by decide +kernel
theorem am_o22 (pc : Nat) (q : am_E) (h : am_tb 22 pc = some q) : am_oke 22 pc q = true := am_okr_all (n := 182) ((am_okr_app (am_ck_ok am_k22_0) (am_ck_ok am_k22_100))) (fun _ => rfl) h
theorem am_k23_0 : am_ck 23 0 100 = true := by decide +kernel
theorem am_k23_100 : am_ck 23 100 19 = true := by decide +kernel
theorem am_o23 (pc : Nat) (q : am_E) (h : am_tb 23 pc = some q) : am_oke 23 pc q = true := am_okr_all (n := 118) ((am_okr_app (am_ck_ok am_k23_0) (am_ck_ok am_k23_100))) (fun _ => rfl) h
theorem am_k24_0 : am_ck 24 0 32 = true := by decide +kernel
theorem am_o24 (pc : Nat) (q : am_E) (h : am_tb 24 pc = some q) : am_oke 24 pc q = true := am_okr_all (n := 31) (am_ck_ok am_k24_0) (fun _ => rfl) h
theorem am_k25_0 : am_ck 25 0 64 = true := by decide +kernel
theorem am_o25 (pc : Nat) (q : am_E) (h : am_tb 25 pc = some q) : am_oke 25 pc q = true := am_okr_all (n := 63) (am_ck_ok am_k25_0) (fun _ => rfl) h
theorem am_k26_0 : am_ck 26 0 96 = true := by decide +kernel
theorem am_o26 (pc : Nat) (q : am_E) (h : am_tb 26 pc = some q) : am_oke 26 pc q = true := am_okr_all (n := 95) (am_ck_ok am_k26_0) (fun _ => rfl) h
theorem am_k27_0 : am_ck 27 0 20 = true := by decide +kernel
theorem am_o27 (pc : Nat) (q : am_E) (h : am_tb 27 pc = some q) : am_oke 27 pc q = true := am_okr_all (n := 19) (am_ck_ok am_k27_0) (fun _ => rfl) h
theorem am_k28_0 : am_ck 28 0 100 = true := by decide +kernel
theorem am_k28_100 : am_ck 28 100 31 = true := by decide +kernel
theorem am_o28 (pc : Nat) (q : am_E) (h : am_tb 28 pc = some q) : am_oke 28 pc q = true := am_okr_all (n := 130) ((am_okr_app (am_ck_ok am_k28_0) (am_ck_ok am_k28_100))) (fun _ => rfl) h
theorem am_k29_0 : am_ck 29 0 27 = true := by decide +kernel
theorem am_o29 (pc : Nat) (q : am_E) (h : am_tb 29 pc = some q) : am_oke 29 pc q = true := am_okr_all (n := 26) (am_ck_ok am_k29_0) (fun _ => rfl) h
theorem am_k30_0 : am_ck 30 0 39 = true := by decide +kernel
theorem am_o30 (pc : Nat) (q : am_E) (h : am_tb 30 pc = some q) : am_oke 30 pc q = true := am_okr_all (n := 38) (am_ck_ok am_k30_0) (fun _ => rfl) h
theorem am_k31_0 : am_ck 31 0 83 = true := by decide +kernel
theorem am_o31 (pc : Nat) (q : am_E) (h : am_tb 31 pc = some q) : am_oke 31 pc q = true := am_okr_all (n := 82) (am_ck_ok am_k31_0) (fun _ => rfl) h
theorem am_k32_0 : am_ck 32 0 61 = true := by decide +kernel
theorem am_o32 (pc : Nat) (q : am_E) (h : am_tb 32 pc = some q) : am_oke 32 pc q = true := am_okr_all (n := 60) (am_ck_ok am_k32_0) (fun _ => rfl) h
theorem am_k33_0 : am_ck 33 0 87 = true := by decide +kernel
theorem am_o33 (pc : Nat) (q : am_E) (h : am_tb 33 pc = some q) : am_oke 33 pc q = true := am_okr_all (n := 86) (am_ck_ok am_k33_0) (fun _ => rfl) h
theorem am_k34_0 : am_ck 34 0 74 = true := by decide +kernel
theorem am_o34 (pc : Nat) (q : am_E) (h : am_tb 34 pc = some q) : am_oke 34 pc q = true := am_okr_all (n := 73) (am_ck_ok am_k34_0) (fun _ => rfl) h
theorem am_k35_0 : am_ck 35 0 100 = true := by decide +kernel
theorem am_k35_100 : am_ck 35 100 20 = true := by decide +kernel
theorem am_o35 (pc : Nat) (q : am_E) (h : am_tb 35 pc = some q) : am_oke 35 pc q = true := am_okr_all (n := 119) ((am_okr_app (am_ck_ok am_k35_0) (am_ck_ok am_k35_100))) (fun _ => rfl) h
theorem am_k36_0 : am_ck 36 0 100 = true := by decide +kernel
theorem am_k36_100 : am_ck 36 100 1 = true := by decide +kernel
theorem am_o36 (pc : Nat) (q : am_E) (h : am_tb 36 pc = some q) : am_oke 36 pc q = true := am_okr_all (n := 100) ((am_okr_app (am_ck_ok am_k36_0) (am_ck_ok am_k36_100))) (fun _ => rfl) h
theorem am_k37_0 : am_ck 37 0 100 = true := by decide +kernel
theorem am_k37_100 : am_ck 37 100 91 = true := by decide +kernel
theorem am_o37 (pc : Nat) (q : am_E) (h : am_tb 37 pc = some q) : am_oke 37 pc q = true := am_okr_all (n := 190) ((am_okr_app (am_ck_ok am_k37_0) (am_ck_ok am_k37_100))) (fun _ => rfl) h
theorem am_k38_0 : am_ck 38 0 100 = true := by decide +kernel
theorem am_k38_100 : am_ck 38 100 25 = true := by decide +kernel
theorem am_o38 (pc : Nat) (q : am_E) (h : am_tb 38 pc = some q) : am_oke 38 pc q = true := am_okr_all (n := 124) ((am_okr_app (am_ck_ok am_k38_0) (am_ck_ok am_k38_100))) (fun _ => rfl) h
theorem am_k39_0 : am_ck 39 0 72 = true := by decide +kernel
theorem am_o39 (pc : Nat) (q : am_E) (h : am_tb 39 pc = some q) : am_oke 39 pc q = true := am_okr_all (n := 71) (am_ck_ok am_k39_0) (fun _ => rfl) h
theorem am_k40_0 : am_ck 40 0 31 = true := by decide +kernel
theorem am_o40 (pc : Nat) (q : am_E) (h : am_tb 40 pc = some q) : am_oke 40 pc q = true := am_okr_all (n := 30) (am_ck_ok am_k40_0) (fun _ => rfl) h
theorem am_k41_0 : am_ck 41 0 54 = true := by decide +kernel
theorem am_o41 (pc : Nat) (q : am_E) (h : am_tb 41 pc = some q) : am_oke 41 pc q = true := am_okr_all (n := 53) (am_ck_ok am_k41_0) (fun _ => rfl) h
theorem am_k42_0 : am_ck 42 0 100 = true := by decide +kernel
theorem am_k42_100 : am_ck 42 100 42 = true := by decide +kernel
theorem am_o42 (pc : Nat) (q : am_E) (h : am_tb 42 pc = some q) : am_oke 42 pc q = true := am_okr_all (n := 141) ((am_okr_app (am_ck_ok am_k42_0) (am_ck_ok am_k42_100))) (fun _ => rfl) h
theorem am_k43_0 : am_ck 43 0 100 = true := by decide +kernel
theorem am_k43_100 : am_ck 43 100 75 = true := by decide +kernel
theorem am_o43 (pc : Nat) (q : am_E) (h : am_tb 43 pc = some q) : am_oke 43 pc q = true := am_okr_all (n := 174) ((am_okr_app (am_ck_ok am_k43_0) (am_ck_ok am_k43_100))) (fun _ => rfl) h
theorem am_k44_0 : am_ck 44 0 100 = true := by decide +kernel
theorem am_k44_100 : am_ck 44 100 86 = true := by decide +kernel
theorem am_o44 (pc : Nat) (q : am_E) (h : am_tb 44 pc = some q) : am_oke 44 pc q = true := am_okr_all (n := 185) ((am_okr_app (am_ck_ok am_k44_0) (am_ck_ok am_k44_100))) (fun _ => rfl) h
theorem am_k45_0 : am_ck 45 0 91 = true := by decide +kernel
theorem am_o45 (pc : Nat) (q : am_E) (h : am_tb 45 pc = some q) : am_oke 45 pc q = true := am_okr_all (n := 90) (am_ck_ok am_k45_0) (fun _ => rfl) h
theorem am_k46_0 : am_ck 46 0 35 = true := by decide +kernel
theorem am_o46 (pc : Nat) (q : am_E) (h : am_tb 46 pc = some q) : am_oke 46 pc q = true := am_okr_all (n := 34) (am_ck_ok am_k46_0) (fun _ => rfl) h
theorem am_k47_0 : am_ck 47 0 33 = true := by decide +kernel
theorem am_o47 (pc : Nat) (q : am_E) (h : am_tb 47 pc = some q) : am_oke 47 pc q = true := am_okr_all (n := 32) (am_ck_ok am_k47_0) (fun _ => rfl) h
theorem am_k48_0 : am_ck 48 0 23 = true := by decide +kernel
theorem am_o48 (pc : Nat) (q : am_E) (h : am_tb 48 pc = some q) : am_oke 48 pc q = true := am_okr_all (n := 22) (am_ck_ok am_k48_0) (fun _ => rfl) h
theorem am_k49_0 : am_ck 49 0 69 = true := by decide +kernel
theorem am_o49 (pc : Nat) (q : am_E) (h : am_tb 49 pc = some q) : am_oke 49 pc q = true := am_okr_all (n := 68) (am_ck_ok am_k49_0) (fun _ => rfl) h
theorem am_k50_0 : am_ck 50 0 100 = true := by decide +kernel
theorem am_k50_100 : am_ck 50 100 31 = true := by decide +kernel
theorem am_o50 (pc : Nat) (q : am_E) (h : am_tb 50 pc = some q) : am_oke 50 pc q = true := am_okr_all (n := 130) ((am_okr_app (am_ck_ok am_k50_0) (am_ck_ok am_k50_100))) (fun _ => rfl) h
theorem am_k51_0 : am_ck 51 0 73 = true := by decide +kernel
theorem am_o51 (pc : Nat) (q : am_E) (h : am_tb 51 pc = some q) : am_oke 51 pc q = true := am_okr_all (n := 72) (am_ck_ok am_k51_0) (fun _ => rfl) h
theorem am_k52_0 : am_ck 52 0 29 = true := by decide +kernel
theorem am_o52 (pc : Nat) (q : am_E) (h : am_tb 52 pc = some q) : am_oke 52 pc q = true := am_okr_all (n := 28) (am_ck_ok am_k52_0) (fun _ => rfl) h
theorem am_k53_0 : am_ck 53 0 39 = true := by decide +kernel
theorem am_o53 (pc : Nat) (q : am_E) (h : am_tb 53 pc = some q) : am_oke 53 pc q = true := am_okr_all (n := 38) (am_ck_ok am_k53_0) (fun _ => rfl) h
theorem am_k54_0 : am_ck 54 0 100 = true := by decide +kernel
theorem am_k54_100 : am_ck 54 100 73 = true := by decide +kernel
theorem am_o54 (pc : Nat) (q : am_E) (h : am_tb 54 pc = some q) : am_oke 54 pc q = true := am_okr_all (n := 172) ((am_okr_app (am_ck_ok am_k54_0) (am_ck_ok am_k54_100))) (fun _ => rfl) h
theorem am_k55_0 : am_ck 55 0 28 = true := by decide +kernel
theorem am_o55 (pc : Nat) (q : am_E) (h : am_tb 55 pc = some q) : am_oke 55 pc q = true := am_okr_all (n := 27) (am_ck_ok am_k55_0) (fun _ => rfl) h
theorem am_k56_0 : am_ck 56 0 58 = true := by decide +kernel
theorem am_o56 (pc : Nat) (q : am_E) (h : am_tb 56 pc = some q) : am_oke 56 pc q = true := am_okr_all (n := 57) (am_ck_ok am_k56_0) (fun _ => rfl) h
theorem am_k57_0 : am_ck 57 0 74 = true := by decide +kernel
theorem am_o57 (pc : Nat) (q : am_E) (h : am_tb 57 pc = some q) : am_oke 57 pc q = true := am_okr_all (n := 73) (am_ck_ok am_k57_0) (fun _ => rfl) h
theorem am_k58_0 : am_ck 58 0 96 = true := by decide +kernel
theorem am_o58 (pc : Nat) (q : am_E) (h : am_tb 58 pc = some q) : am_oke 58 pc q = true := am_okr_all (n := 95) (am_ck_ok am_k58_0) (fun _ => rfl) h
theorem am_k59_0 : am_ck 59 0 11 = true := by decide +kernel
theorem am_o59 (pc : Nat) (q : am_E) (h : am_tb 59 pc = some q) : am_oke 59 pc q = true := am_okr_all (n := 10) (am_ck_ok am_k59_0) (fun _ => rfl) h
theorem am_k60_0 : am_ck 60 0 12 = true := by decide +kernel
theorem am_o60 (pc : Nat) (q : am_E) (h : am_tb 60 pc = some q) : am_oke 60 pc q = true := am_okr_all (n := 11) (am_ck_ok am_k60_0) (fun _ => rfl) h
theorem am_k61_0 : am_ck 61 0 27 = true := by decide +kernel
theorem am_o61 (pc : Nat) (q : am_E) (h : am_tb 61 pc = some q) : am_oke 61 pc q = true := am_okr_all (n := 26) (am_ck_ok am_k61_0) (fun _ => rfl) h
theorem am_k62_0 : am_ck 62 0 17 = true := by decide +kernel
theorem am_o62 (pc : Nat) (q : am_E) (h : am_tb 62 pc = some q) : am_oke 62 pc q = true := am_okr_all (n := 16) (am_ck_ok am_k62_0) (fun _ => rfl) h
theorem am_k63_0 : am_ck 63 0 25 = true := by decide +kernel
theorem am_o63 (pc : Nat) (q : am_E) (h : am_tb 63 pc = some q) : am_oke 63 pc q = true := am_okr_all (n := 24) (am_ck_ok am_k63_0) (fun _ => rfl) h
theorem am_k64_0 : am_ck 64 0 29 = true := by decide +kernel
theorem am_o64 (pc : Nat) (q : am_E) (h : am_tb 64 pc = some q) : am_oke 64 pc q = true := am_okr_all (n := 28) (am_ck_ok am_k64_0) (fun _ => rfl) h
theorem am_k65_0 : am_ck 65 0 26 = true := by decide +kernel
theorem am_o65 (pc : Nat) (q : am_E) (h : am_tb 65 pc = some q) : am_oke 65 pc q = true := am_okr_all (n := 25) (am_ck_ok am_k65_0) (fun _ => rfl) h
theorem am_k66_0 : am_ck 66 0 63 = true := by decide +kernel
theorem am_o66 (pc : Nat) (q : am_E) (h : am_tb 66 pc = some q) : am_oke 66 pc q = true := am_okr_all (n := 62) (am_ck_ok am_k66_0) (fun _ => rfl) h
