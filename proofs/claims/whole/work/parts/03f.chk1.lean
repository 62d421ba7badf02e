theorem am_k67_0 : am_ck 67 0 11 = true := by decide +kernel
theorem am_o67 (pc : Nat) (q : am_E) (h : am_tb 67 pc = some q) : am_oke 67 pc q = true := am_okr_all (n := 10) (am_ck_ok am_k67_0) (fun _ => rfl) h
theorem am_k68_0 : am_ck 68 0 80 = true := by decide +kernel
theorem am_o68 (pc : Nat) (q : am_E) (h : am_tb 68 pc = some q) : am_oke 68 pc q = true := am_okr_all (n := 79) (am_ck_ok am_k68_0) (fun _ => rfl) h
theorem am_k69_0 : am_ck 69 0 26 = true := by decide +kernel
theorem am_o69 (pc : Nat) (q : am_E) (h : am_tb 69 pc = some q) : am_oke 69 pc q = true := am_okr_all (n := 25) (am_ck_ok am_k69_0) (fun _ => rfl) h
theorem am_k70_0 : am_ck 70 0 82 = true := by decide +kernel
theorem am_o70 (pc : Nat) (q : am_E) (h : am_tb 70 pc = some q) : am_oke 70 pc q = true := am_okr_all (n := 81) (am_ck_ok am_k70_0) (fun _ => rfl) h
theorem am_k71_0 : am_ck 71 0 30 = true := by decide +kernel
theorem am_o71 (pc : Nat) (q : am_E) (h : am_tb 71 pc = some q) : am_oke 71 pc q = true := am_okr_all (n := 29) (am_ck_ok am_k71_0) (fun _ => rfl) h
theorem am_k72_0 : am_ck 72 0 57 = true := by decide +kernel
theorem am_o72 (pc : Nat) (q : am_E) (h : am_tb 72 pc = some q) : am_oke 72 pc q = true := am_okr_all (n := 56) (am_ck_ok am_k72_0) (fun _ => rfl) h
theorem am_k73_0 : am_ck 73 0 50 = true := by decide +kernel
theorem am_o73 (pc : Nat) (q : am_E) (h : am_tb 73 pc = some q) : am_oke 73 pc q = true := am_okr_all (n := 49) (am_ck_ok am_k73_0) (fun _ => rfl) h
theorem am_k74_0 : am_ck 74 0 79 = true := by decide +kernel
theorem am_o74 (pc : Nat) (q : am_E) (h : am_tb 74 pc = some q) : am_oke 74 pc q = true := am_okr_all (n := 78) (am_ck_ok am_k74_0) (fun _ => rfl) h
theorem am_k75_0 : am_ck 75 0 100 = true := by decide +kernel
theorem am_k75_100 : am_ck 75 100 36 = true := by decide +kernel
theorem am_o75 (pc : Nat) (q : am_E) (h : am_tb 75 pc = some q) : am_oke 75 pc q = true := am_okr_all (n := 135) ((am_okr_app (am_ck_ok am_k75_0) (am_ck_ok am_k75_100))) (fun _ => rfl) h
theorem am_k76_0 : am_ck 76 0 100 = true := by decide +kernel
theorem am_k76_100 : am_ck 76 100 9 = true := by decide +kernel
theorem am_o76 (pc : Nat) (q : am_E) (h : am_tb 76 pc = some q) : am_oke 76 pc q = true := am_okr_all (n := 108) ((am_okr_app (am_ck_ok am_k76_0) (am_ck_ok am_k76_100))) (fun _ => rfl) h
theorem am_k77_0 : am_ck 77 0 18 = true := by decide +kernel
theorem am_o77 (pc : Nat) (q : am_E) (h : am_tb 77 pc = some q) : am_oke 77 pc q = true := am_okr_all (n := 17) (am_ck_ok am_k77_0) (fun _ => rfl) h
theorem am_k78_0 : am_ck 78 0 18 = true := by decide +kernel
theorem am_o78 (pc : Nat) (q : am_E) (h : am_tb 78 pc = some q) : am_oke 78 pc q = true := am_okr_all (n := 17) (am_ck_ok am_k78_0) (fun _ => rfl) h
theorem am_k79_0 : am_ck 79 0 51 = true := by decide +kernel
theorem am_o79 (pc : Nat) (q : am_E) (h : am_tb 79 pc = some q) : am_oke 79 pc q = true := am_okr_all (n := 50) (am_ck_ok am_k79_0) (fun _ => rfl) h
theorem am_k80_0 : am_ck 80 0 100 = true := by decide +kernel
theorem am_k80_100 : am_ck 80 100 28 = true := by decide +kernel
theorem am_o80 (pc : Nat) (q : am_E) (h : am_tb 80 pc = some q) : am_oke 80 pc q = true := am_okr_all (n := 127) ((am_okr_app (am_ck_ok am_k80_0) (am_ck_ok am_k80_100))) (fun _ => rfl) h
theorem am_k81_0 : am_ck 81 0 65 = true := by decide +kernel
theorem am_o81 (pc : Nat) (q : am_E) (h : am_tb 81 pc = some q) : am_oke 81 pc q = true := am_okr_all (n := 64) (am_ck_ok am_k81_0) (fun _ => rfl) h
theorem am_k82_0 : am_ck 82 0 100 = true := by decide +kernel
theorem am_k82_100 : am_ck 82 100 22 = true := by decide +kernel
theorem am_o82 (pc : Nat) (q : am_E) (h : am_tb 82 pc = some q) : am_oke 82 pc q = true := am_okr_all (n := 121) ((am_okr_app (am_ck_ok am_k82_0) (am_ck_ok am_k82_100))) (fun _ => rfl) h
theorem am_k83_0 : am_ck 83 0 100 = true := by decide +kernel
theorem am_k83_100 : am_ck 83 100 12 = true := by decide +kernel
theorem am_o83 (pc : Nat) (q : am_E) (h : am_tb 83 pc = some q) : am_oke 83 pc q = true := am_okr_all (n := 111) ((am_okr_app (am_ck_ok am_k83_0) (am_ck_ok am_k83_100))) (fun _ => rfl) h
theorem am_k84_0 : am_ck 84 0 100 = true := by decide +kernel
theorem am_k84_100 : am_ck 84 100 46 = true := by decide +kernel
theorem am_o84 (pc : Nat) (q : am_E) (h : am_tb 84 pc = some q) : am_oke 84 pc q = true := am_okr_all (n := 145) ((am_okr_app (am_ck_ok am_k84_0) (am_ck_ok am_k84_100))) (fun _ => rfl) h
theorem am_k85_0 : am_ck 85 0 52 = true := by decide +kernel
theorem am_o85 (pc : Nat) (q : am_E) (h : am_tb 85 pc = some q) : am_oke 85 pc q = true := am_okr_all (n := 51) (am_ck_ok am_k85_0) (fun _ => rfl) h
theorem am_k86_0 : am_ck 86 0 100 = true := by decide +kernel
theorem am_k86_100 : am_ck 86 100 63 = true := by decide +kernel
theorem am_o86 (pc : Nat) (q : am_E) (h : am_tb 86 pc = some q) : am_oke 86 pc q = true := am_okr_all (n := 162) ((am_okr_app (am_ck_ok am_k86_0) (am_ck_ok am_k86_100))) (fun _ => rfl) h
theorem am_k87_0 : am_ck 87 0 47 = true := by decide +kernel
theorem am_o87 (pc : Nat) (q : am_E) (h : am_tb 87 pc = some q) : am_oke 87 pc q = true := am_okr_all (n := 46) (am_ck_ok am_k87_0) (fun _ => rfl) h
theorem am_k88_0 : am_ck 88 0 47 = true := by decide +kernel
theorem am_o88 (pc : Nat) (q : am_E) (h : am_tb 88 pc = some q) : am_oke 88 pc q = true := am_okr_all (n := 46) (am_ck_ok am_k88_0) (fun _ => rfl) h
theorem am_k89_0 : am_ck 89 0 100 = true := by decide +kernel
theorem am_k89_100 : am_ck 89 100 23 = true := by decide +kernel
theorem am_o89 (pc : Nat) (q : am_E) (h : am_tb 89 pc = some q) : am_oke 89 pc q = true := am_okr_all (n := 122) ((am_okr_app (am_ck_ok am_k89_0) (am_ck_ok am_k89_100))) (fun _ => rfl) h
theorem am_k90_0 : am_ck 90 0 23 = true := by decide +kernel
theorem am_o90 (pc : Nat) (q : am_E) (h : am_tb 90 pc = some q) : am_oke 90 pc q = true := am_okr_all (n := 22) (am_ck_ok am_k90_0) (fun _ => rfl) h
theorem am_k91_0 : am_ck 91 0 51 = true := by decide +kernel
theorem am_o91 (pc : Nat) (q : am_E) (h : am_tb 91 pc = some q) : am_oke 91 pc q = true := am_okr_all (n := 50) (am_ck_ok am_k91_0) (fun _ => rfl) h
theorem am_k92_0 : am_ck 92 0 30 = true := by decide +kernel
theorem am_o92 (pc : Nat) (q : am_E) (h : am_tb 92 pc = some q) : am_oke 92 pc q = true := am_okr_all (n := 29) (am_ck_ok am_k92_0) (fun _ => rfl) h
theorem am_k93_0 : am_ck 93 0 21 = true := by decide +kernel
theorem am_o93 (pc : Nat) (q : am_E) (h : am_tb 93 pc = some q) : am_oke 93 pc q = true := am_okr_all (n := 20) (am_ck_ok am_k93_0) (fun _ => rfl) h
theorem am_k94_0 : am_ck 94 0 21 = true := by decide +kernel
theorem am_o94 (pc : Nat) (q : am_E) (h : am_tb 94 pc = some q) : am_oke 94 pc q = true := am_okr_all (n := 20) (am_ck_ok am_k94_0) (fun _ => rfl) h
theorem am_k95_0 : am_ck 95 0 15 = true := by decide +kernel
theorem am_o95 (pc : Nat) (q : am_E) (h : am_tb 95 pc = some q) : am_oke 95 pc q = true := am_okr_all (n := 14) (am_ck_ok am_k95_0) (fun _ => rfl) h
theorem am_k96_0 : am_ck 96 0 16 = true := by decide +kernel
theorem am_o96 (pc : Nat) (q : am_E) (h : am_tb 96 pc = some q) : am_oke 96 pc q = true := am_okr_all (n := 15) (am_ck_ok am_k96_0) (fun _ => rfl) h
theorem am_k97_0 : am_ck 97 0 67 = true := by decide +kernel
theorem am_o97 (pc : Nat) (q : am_E) (h : am_tb 97 pc = some q) : am_oke 97 pc q = true := am_okr_all (n := 66) (am_ck_ok am_k97_0) (fun _ => rfl) h
theorem am_k98_0 : am_ck 98 0 87 = true := by decide +kernel
theorem am_o98 (pc : Nat) (q : am_E) (h : am_tb 98 pc = some q) : am_oke 98 pc q = true := am_okr_all (n := 86) (am_ck_ok am_k98_0) (fun _ => rfl) h
theorem am_k99_0 : am_ck 99 0 90 = true := by decide +kernel
theorem am_o99 (pc : Nat) (q : am_E) (h : am_tb 99 pc = some q) : am_oke 99 pc q = true := am_okr_all (n := 89) (am_ck_ok am_k99_0) (fun _ => rfl) h
theorem am_k100_0 : am_ck 100 0 75 = true := by decide +kernel
theorem am_o100 (pc : Nat) (q : am_E) (h : am_tb 100 pc = some q) : am_oke 100 pc q = true := am_okr_all (n := 74) (am_ck_ok am_k100_0) (fun _ => rfl) h
theorem am_k101_0 : am_ck 101 0 24 = true := by decide +kernel
theorem am_o101 (pc : Nat) (q : am_E) (h : am_tb 101 pc = some q) : am_oke 101 pc q = true := am_okr_all (n := 23) (am_ck_ok am_k101_0) (fun _ => rfl) h
theorem am_k102_0 : am_ck 102 0 100 = true := by decide +kernel
theorem am_k102_100 : am_ck 102 100 16 = true := by decide +kernel
theorem am_o102 (pc : Nat) (q : am_E) (h : am_tb 102 pc = some q) : am_oke 102 pc q = true := am_okr_all (n := 115) ((am_okr_app (am_ck_ok am_k102_0) (am_ck_ok am_k102_100))) (fun _ => rfl) h
theorem am_k103_0 : am_ck 103 0 100 = true := by decide +kernel
theorem am_k103_100 : am_ck 103 100 9 = true := by decide +kernel
theorem am_o103 (pc : Nat) (q : am_E) (h : am_tb 103 pc = some q) : am_oke 103 pc q = true := am_okr_all (n := 108) ((am_okr_app (am_ck_ok am_k103_0) (am_ck_ok am_k103_100))) (fun _ => rfl) h
theorem am_k104_0 : am_ck 104 0 60 = true := by decide +kernel
theorem am_o104 (pc : Nat) (q : am_E) (h : am_tb 104 pc = some q) : am_oke 104 pc q = true := am_okr_all (n := 59) (am_ck_ok am_k104_0) (fun _ => rfl) h
theorem am_k105_0 : am_ck 105 0 66 = true := by decide +kernel
theorem am_o105 (pc : Nat) (q : am_E) (h : am_tb 105 pc = some q) : am_oke 105 pc q = true := am_okr_all (n := 65) (am_ck_ok am_k105_0) (fun _ => rfl) h
theorem am_k106_0 : am_ck 106 0 21 = true := by decide +kernel
theorem am_o106 (pc : Nat) (q : am_E) (h : am_tb 106 pc = some q) : am_oke 106 pc q = true := am_okr_all (n := 20) (am_ck_ok am_k106_0) (fun _ => rfl) h
theorem am_k107_0 : am_ck 107 0 79 = true := by decide +kernel
theorem am_o107 (pc : Nat) (q : am_E) (h : am_tb 107 pc = some q) : am_oke 107 pc q = true := am_okr_all (n := 78) (am_ck_ok am_k107_0) (fun _ => rfl) h
theorem am_k108_0 : am_ck 108 0 24 = true := by decide +kernel
theorem am_o108 (pc : Nat) (q : am_E) (h : am_tb 108 pc = some q) : am_oke 108 pc q = true := am_okr_all (n := 23) (am_ck_ok am_k108_0) (fun _ => rfl) h
theorem am_k109_0 : am_ck 109 0 100 = true := by decide +kernel
theorem am_k109_100 : am_ck 109 100 70 = true := by decide +kernel
theorem am_o109 (pc : Nat) (q : am_E) (h : am_tb 109 pc = some q) : am_oke 109 pc q = true := am_okr_all (n := 169) ((am_okr_app (am_ck_ok am_k109_0) (am_ck_ok am_k109_100))) (fun _ => rfl) h
theorem am_k110_0 : am_ck 110 0 6 = true := by decide +kernel
theorem am_o110 (pc : Nat) (q : am_E) (h : am_tb 110 pc = some q) : am_oke 110 pc q = true := am_okr_all (n := 5) (am_ck_ok am_k110_0) (fun _ => rfl) h
theorem am_k111_0 : am_ck 111 0 6 = true := by decide +kernel
theorem am_o111 (pc : Nat) (q : am_E) (h : am_tb 111 pc = some q) : am_oke 111 pc q = true := am_okr_all (n := 5) (am_ck_ok am_k111_0) (fun _ => rfl) h
theorem am_k112_0 : am_ck 112 0 53 = true := by decide +kernel
theorem am_o112 (pc : Nat) (q : am_E) (h : am_tb 112 pc = some q) : am_oke 112 pc q = true := am_okr_all (n := 52) (am_ck_ok am_k112_0) (fun _ => rfl) h
theorem am_k113_0 : am_ck 113 0 31 = true := by decide +kernel
theorem am_o113 (pc : Nat) (q : am_E) (h : am_tb 113 pc = some q) : am_oke 113 pc q = true := am_okr_all (n := 30) (am_ck_ok am_k113_0) (fun _ => rfl) h
theorem am_k114_0 : am_ck 114 0 31 = true := by decide +kernel
theorem am_o114 (pc : Nat) (q : am_E) (h : am_tb 114 pc = some q) : am_oke 114 pc q = true := am_okr_all (n := 30) (am_ck_ok am_k114_0) (fun _ => rfl) h
theorem am_k115_0 : am_ck 115 0 40 = true := by decide +kernel
theorem am_o115 (pc : Nat) (q : am_E) (h : am_tb 115 pc = some q) : am_oke 115 pc q = true := am_okr_all (n := 39) (am_ck_ok am_k115_0) (fun _ => rfl) h
theorem am_k116_0 : am_ck 116 0 100 = true := by decide +kernel
theorem am_k116_100 : am_ck 116 100 13 = true := by decide +kernel
theorem am_o116 (pc : Nat) (q : am_E) (h : am_tb 116 pc = some q) : am_oke 116 pc q = true := am_okr_all (n := 112) ((am_okr_app (am_ck_ok am_k116_0) (am_ck_ok am_k116_100))) (fun _ => rfl) h
theorem am_k117_0 : am_ck 117 0 19 = true := by decide +kernel
theorem am_o117 (pc : Nat) (q : am_E) (h : am_tb 117 pc = some q) : am_oke 117 pc q = true := am_okr_all (n := 18) (am_ck_ok am_k117_0) (fun _ => rfl) h
theorem am_k118_0 : am_ck 118 0 55 = true := by decide +kernel
theorem am_o118 (pc : Nat) (q : am_E) (h : am_tb 118 pc = some q) : am_oke 118 pc q = true := am_okr_all (n := 54) (am_ck_ok am_k118_0) (fun _ => rfl) h
theorem am_k119_0 : am_ck 119 0 39 = true := by decide +kernel
theorem am_o119 (pc : Nat) (q : am_E) (h : am_tb 119 pc = some q) : am_oke 119 pc q = true := am_okr_all (n := 38) (am_ck_ok am_k119_0) (fun _ => rfl) h
theorem am_k120_0 : am_ck 120 0 61 = true := by decide +kernel
theorem am_o120 (pc : Nat) (q : am_E) (h : am_tb 120 pc = some q) : am_oke 120 pc q = true := am_okr_all (n := 60) (am_ck_ok am_k120_0) (fun _ => rfl) h
theorem am_k121_0 : am_ck 121 0 100 = true := by decide +kernel
theorem am_k121_100 : am_ck 121 100 45 = true := by decide +kernel
theorem am_o121 (pc : Nat) (q : am_E) (h : am_tb 121 pc = some q) : am_oke 121 pc q = true := am_okr_all (n := 144) ((am_okr_app (am_ck_ok am_k121_0) (am_ck_ok am_k121_100))) (fun _ => rfl) h
theorem am_k122_0 : am_ck 122 0 39 = true := by decide +kernel
theorem am_o122 (pc : Nat) (q : am_E) (h : am_tb 122 pc = some q) : am_oke 122 pc q = true := am_okr_all (n := 38) (am_ck_ok am_k122_0) (fun _ => rfl) h
theorem am_k123_0 : am_ck 123 0 68 = true := by decide +kernel
theorem am_o123 (pc : Nat) (q : am_E) (h : am_tb 123 pc = some q) : am_oke 123 pc q = true := am_okr_all (n := 67) (am_ck_ok am_k123_0) (fun _ => rfl) h
theorem am_k124_0 : am_ck 124 0 82 = true := by decide +kernel
theorem am_o124 (pc : Nat) (q : am_E) (h : am_tb 124 pc = some q) : am_oke 124 pc q = true := am_okr_all (n := 81) (am_ck_ok am_k124_0) (fun _ => rfl) h
theorem am_k125_0 : am_ck 125 0 44 = true := by decide +kernel
theorem am_o125 (pc : Nat) (q : am_E) (h : am_tb 125 pc = some q) : am_oke 125 pc q = true := am_okr_all (n := 43) (am_ck_ok am_k125_0) (fun _ => rfl) h
theorem am_k126_0 : am_ck 126 0 84 = true := by decide +kernel
theorem am_o126 (pc : Nat) (q : am_E) (h : am_tb 126 pc = some q) : am_oke 126 pc q = true := am_okr_all (n := 83) (am_ck_ok am_k126_0) (fun _ => rfl) h
theorem am_k127_0 : am_ck 127 0 77 = true := by decide +kernel
theorem am_o127 (pc : Nat) (q : am_E) (h : am_tb 127 pc = some q) : am_oke 127 pc q = true := am_okr_all (n := 76) (am_ck_ok am_k127_0) (fun _ => rfl) h
theorem am_k128_0 : am_ck 128 0 51 = true := by decide +kernel
theorem am_o128 (pc : Nat) (q : am_E) (h : am_tb 128 pc = some q) : am_oke 128 pc q = true := am_okr_all (n := 50) (am_ck_ok am_k128_0) (fun _ => rfl) h
theorem am_k129_0 : am_ck 129 0 100 = true := by decide +kernel
theorem am_k129_100 : am_ck 129 100 59 = true := by decide +kernel
theorem am_o129 (pc : Nat) (q : am_E) (h : am_tb 129 pc = some q) : am_oke 129 pc q = true := am_okr_all (n := 158) ((am_okr_app (am_ck_ok am_k129_0) (am_ck_ok am_k129_100))) (fun _ => rfl) h
theorem am_k130_0 : am_ck 130 0 31 = true := by decide +kernel
theorem am_o130 (pc : Nat) (q : am_E) (h : am_tb 130 pc = some q) : am_oke 130 pc q = true := am_okr_all (n := 30) (am_ck_ok am_k130_0) (fun _ => rfl) h
theorem am_k131_0 : am_ck 131 0 100 = true := by decide +kernel
theorem am_k131_100 : am_ck 131 100 5 = true := by decide +kernel
theorem am_o131 (pc : Nat) (q : am_E) (h : am_tb 131 pc = some q) : am_oke 131 pc q = true := am_okr_all (n := 104) ((am_okr_app (am_ck_ok am_k131_0) (am_ck_ok am_k131_100))) (fun _ => rfl) h
theorem am_k132_0 : am_ck 132 0 58 = true := by decide +kernel
theorem am_o132 (pc : Nat) (q : am_E) (h : am_tb 132 pc = some q) : am_oke 132 pc q = true := am_okr_all (n := 57) (am_ck_ok am_k132_0) (fun _ => rfl) h
theorem am_k133_0 : am_ck 133 0 71 = true := by decide +kernel
theorem am_o133 (pc : Nat) (q : am_E) (h : am_tb 133 pc = some q) : am_oke 133 pc q = true := am_okr_all (n := 70) (am_ck_ok am_k133_0) (fun _ => rfl) h
theorem am_k134_0 : am_ck 134 0 61 = true := by decide +kernel
theorem am_o134 (pc : Nat) (q : am_E) (h : am_tb 134 pc = some q) : am_oke 134 pc q = true := am_okr_all (n := 60) (am_ck_ok am_k134_0) (fun _ => rfl) h
theorem am_k135_0 : am_ck 135 0 74 = true := by decide +kernel
theorem am_o135 (pc : Nat) (q : am_E) (h : am_tb 135 pc = some q) : am_oke 135 pc q = true := am_okr_all (n := 73) (am_ck_ok am_k135_0) (fun _ => rfl) h
theorem am_k136_0 : am_ck 136 0 51 = true := by decide +kernel
theorem am_o136 (pc : Nat) (q : am_E) (h : am_tb 136 pc = some q) : am_oke 136 pc q = true := am_okr_all (n := 50) (am_ck_ok am_k136_0) (fun _ => rfl) h
theorem am_k137_0 : am_ck 137 0 36 = true := by decide +kernel
theorem am_o137 (pc : Nat) (q : am_E) (h : am_tb 137 pc = some q) : am_oke 137 pc q = true := am_okr_all (n := 35) (am_ck_ok am_k137_0) (fun _ => rfl) h
theorem am_k138_0 : am_ck 138 0 45 = true := by decide +kernel
theorem am_o138 (pc : Nat) (q : am_E) (h : am_tb 138 pc = some q) : am_oke 138 pc q = true := am_okr_all (n := 44) (am_ck_ok am_k138_0) (fun _ => rfl) h
theorem am_k139_0 : am_ck 139 0 30 = true := by decide +kernel
theorem am_o139 (pc : Nat) (q : am_E) (h : am_tb 139 pc = some q) : am_oke 139 pc q = true := am_okr_all (n := 29) (am_ck_ok am_k139_0) (fun _ => rfl) h
theorem am_k140_0 : am_ck 140 0 28 = true := by decide +kernel
theorem am_o140 (pc : Nat) (q : am_E) (h : am_tb 140 pc = some q) : am_oke 140 pc q = true := am_okr_all (n := 27) (am_ck_ok am_k140_0) (fun _ => rfl) h
theorem am_k141_0 : am_ck 141 0 49 = true := by decide +kernel
theorem am_o141 (pc : Nat) (q : am_E) (h : am_tb 141 pc = some q) : am_oke 141 pc q = true := am_okr_all (n := 48) (am_ck_ok am_k141_0) (fun _ => rfl) h
theorem am_k142_0 : am_ck 142 0 63 = true := by decide +kernel
theorem am_o142 (pc : Nat) (q : am_E) (h : am_tb 142 pc = some q) : am_oke 142 pc q = true := am_okr_all (n := 62) (am_ck_ok am_k142_0) (fun _ => rfl) h
theorem am_k143_0 : am_ck 143 0 85 = true := by decide +kernel
theorem am_o143 (pc : Nat) (q : am_E) (h : am_tb 143 pc = some q) : am_oke 143 pc q = true := am_okr_all (n := 84) (am_ck_ok am_k143_0) (fun _ => rfl) h
theorem am_k144_0 : am_ck 144 0 100 = true := by decide +kernel
theorem am_k144_100 : am_ck 144 100 23 = true := by decide +kernel
theorem am_o144 (pc : Nat) (q : am_E) (h : am_tb 144 pc = some q) : am_oke 144 pc q = true := am_okr_all (n := 122) ((am_okr_app (am_ck_ok am_k144_0) (am_ck_ok am_k144_100))) (fun _ => rfl) h
