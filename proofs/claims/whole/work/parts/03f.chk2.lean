theorem am_k145_0 : am_ck 145 0 100 = true := by decide +kernel
theorem am_k145_100 : am_ck 145 100 63 = true := by decide +kernel
theorem am_o145 (pc : Nat) (q : am_E) (h : am_tb 145 pc = some q) : am_oke 145 pc q = true := am_okr_all (n := 162) ((am_okr_app (am_ck_ok am_k145_0) (am_ck_ok am_k145_100))) (fun _ => rfl) h
theorem am_k146_0 : am_ck 146 0 39 = true := by decide +kernel
theorem am_o146 (pc : Nat) (q : am_E) (h : am_tb 146 pc = some q) : am_oke 146 pc q = true := am_okr_all (n := 38) (am_ck_ok am_k146_0) (fun _ => rfl) h
theorem am_k147_0 : am_ck 147 0 24 = true := by decide +kernel
theorem am_o147 (pc : Nat) (q : am_E) (h : am_tb 147 pc = some q) : am_oke 147 pc q = true := am_okr_all (n := 23) (am_ck_ok am_k147_0) (fun _ => rfl) h
theorem am_k148_0 : am_ck 148 0 43 = true := by decide +kernel
theorem am_o148 (pc : Nat) (q : am_E) (h : am_tb 148 pc = some q) : am_oke 148 pc q = true := am_okr_all (n := 42) (am_ck_ok am_k148_0) (fun _ => rfl) h
theorem am_k149_0 : am_ck 149 0 100 = true := by decide +kernel
theorem am_k149_100 : am_ck 149 100 65 = true := by decide +kernel
theorem am_o149 (pc : Nat) (q : am_E) (h : am_tb 149 pc = some q) : am_oke 149 pc q = true := am_okr_all (n := 164) ((am_okr_app (am_ck_ok am_k149_0) (am_ck_ok am_k149_100))) (fun _ => rfl) h
theorem am_k150_0 : am_ck 150 0 100 = true := by decide +kernel
theorem am_k150_100 : am_ck 150 100 100 = true := by decide +kernel
theorem am_k150_200 : am_ck 150 200 100 = true := by decide +kernel
theorem am_k150_300 : am_ck 150 300 100 = true := by decide +kernel
theorem am_k150_400 : am_ck 150 400 100 = true := by decide +kernel
theorem am_k150_500 : am_ck 150 500 100 = true := by decide +kernel
theorem am_k150_600 : am_ck 150 600 100 = true := by decide +kernel
theorem am_k150_700 : am_ck 150 700 100 = true := by decide +kernel
theorem am_k150_800 : am_ck 150 800 100 = true := by decide +kernel
theorem am_k150_900 : am_ck 150 900 31 = true := by decide +kernel
theorem am_o150 (pc : Nat) (q : am_E) (h : am_tb 150 pc = some q) : am_oke 150 pc q = true := am_okr_all (n := 930) ((am_okr_app (am_okr_app (am_okr_app (am_okr_app (am_okr_app (am_okr_app (am_okr_app (am_okr_app (am_okr_app (am_ck_ok am_k150_0) (am_ck_ok am_k150_100)) (am_ck_ok am_k150_200)) (am_ck_ok am_k150_300)) (am_ck_ok am_k150_400)) (am_ck_ok am_k150_500)) (am_ck_ok am_k150_600)) (am_ck_ok am_k150_700)) (am_ck_ok am_k150_800)) (am_ck_ok am_k150_900))) (fun _ => rfl) h
theorem am_k151_0 : am_ck 151 0 5 = true := by decide +kernel
theorem am_o151 (pc : Nat) (q : am_E) (h : am_tb 151 pc = some q) : am_oke 151 pc q = true := am_okr_all (n := 4) (am_ck_ok am_k151_0) (fun _ => rfl) h
theorem am_k152_0 : am_ck 152 0 100 = true := by decide +kernel
theorem am_k152_100 : am_ck 152 100 29 = true := by decide +kernel
theorem am_o152 (pc : Nat) (q : am_E) (h : am_tb 152 pc = some q) : am_oke 152 pc q = true := am_okr_all (n := 128) ((am_okr_app (am_ck_ok am_k152_0) (am_ck_ok am_k152_100))) (fun _ => rfl) h
theorem am_k153_0 : am_ck 153 0 16 = true := by decide +kernel
theorem am_o153 (pc : Nat) (q : am_E) (h : am_tb 153 pc = some q) : am_oke 153 pc q = true := am_okr_all (n := 15) (am_ck_ok am_k153_0) (fun _ => rfl) h
theorem am_k154_0 : am_ck 154 0 15 = true := by decide +kernel
theorem am_o154 (pc : Nat) (q : am_E) (h : am_tb 154 pc = some q) : am_oke 154 pc q = true := am_okr_all (n := 14) (am_ck_ok am_k154_0) (fun _ => rfl) h
theorem am_k155_0 : am_ck 155 0 100 = true := by decide +kernel
theorem am_k155_100 : am_ck 155 100 28 = true := by decide +kernel
theorem am_o155 (pc : Nat) (q : am_E) (h : am_tb 155 pc = some q) : am_oke 155 pc q = true := am_okr_all (n := 127) ((am_okr_app (am_ck_ok am_k155_0) (am_ck_ok am_k155_100))) (fun _ => rfl) h
theorem am_k156_0 : am_ck 156 0 36 = true := by decide +kernel
theorem am_o156 (pc : Nat) (q : am_E) (h : am_tb 156 pc = some q) : am_oke 156 pc q = true := am_okr_all (n := 35) (am_ck_ok am_k156_0) (fun _ => rfl) h
theorem am_k157_0 : am_ck 157 0 36 = true := by decide +kernel
theorem am_o157 (pc : Nat) (q : am_E) (h : am_tb 157 pc = some q) : am_oke 157 pc q = true := am_okr_all (n := 35) (am_ck_ok am_k157_0) (fun _ => rfl) h
theorem am_k158_0 : am_ck 158 0 100 = true := by decide +kernel
theorem am_k158_100 : am_ck 158 100 100 = true := by decide +kernel
theorem am_k158_200 : am_ck 158 200 82 = true := by decide +kernel
theorem am_o158 (pc : Nat) (q : am_E) (h : am_tb 158 pc = some q) : am_oke 158 pc q = true := am_okr_all (n := 281) ((am_okr_app (am_okr_app (am_ck_ok am_k158_0) (am_ck_ok am_k158_100)) (am_ck_ok am_k158_200))) (fun _ => rfl) h
theorem am_k159_0 : am_ck 159 0 100 = true := by decide +kernel
theorem am_k159_100 : am_ck 159 100 100 = true := by decide +kernel
theorem am_k159_200 : am_ck 159 200 91 = true := by decide +kernel
theorem am_o159 (pc : Nat) (q : am_E) (h : am_tb 159 pc = some q) : am_oke 159 pc q = true := am_okr_all (n := 290) ((am_okr_app (am_okr_app (am_ck_ok am_k159_0) (am_ck_ok am_k159_100)) (am_ck_ok am_k159_200))) (fun _ => rfl) h
theorem am_k160_0 : am_ck 160 0 47 = true := by decide +kernel
theorem am_o160 (pc : Nat) (q : am_E) (h : am_tb 160 pc = some q) : am_oke 160 pc q = true := am_okr_all (n := 46) (am_ck_ok am_k160_0) (fun _ => rfl) h
theorem am_k161_0 : am_ck 161 0 22 = true := by decide +kernel
theorem am_o161 (pc : Nat) (q : am_E) (h : am_tb 161 pc = some q) : am_oke 161 pc q = true := am_okr_all (n := 21) (am_ck_ok am_k161_0) (fun _ => rfl) h
theorem am_k162_0 : am_ck 162 0 22 = true := by decide +kernel
theorem am_o162 (pc : Nat) (q : am_E) (h : am_tb 162 pc = some q) : am_oke 162 pc q = true := am_okr_all (n := 21) (am_ck_ok am_k162_0) (fun _ => rfl) h
theorem am_k163_0 : am_ck 163 0 46 = true := by decide +kernel
theorem am_o163 (pc : Nat) (q : am_E) (h : am_tb 163 pc = some q) : am_oke 163 pc q = true := am_okr_all (n := 45) (am_ck_ok am_k163_0) (fun _ => rfl) h
theorem am_k164_0 : am_ck 164 0 48 = true := by decide +kernel
theorem am_o164 (pc : Nat) (q : am_E) (h : am_tb 164 pc = some q) : am_oke 164 pc q = true := am_okr_all (n := 47) (am_ck_ok am_k164_0) (fun _ => rfl) h
theorem am_k165_0 : am_ck 165 0 100 = true := by decide +kernel
theorem am_k165_100 : am_ck 165 100 17 = true := by decide +kernel
theorem am_o165 (pc : Nat) (q : am_E) (h : am_tb 165 pc = some q) : am_oke 165 pc q = true := am_okr_all (n := 116) ((am_okr_app (am_ck_ok am_k165_0) (am_ck_ok am_k165_100))) (fun _ => rfl) h
theorem am_k166_0 : am_ck 166 0 22 = true := by decide +kernel
theorem am_o166 (pc : Nat) (q : am_E) (h : am_tb 166 pc = some q) : am_oke 166 pc q = true := am_okr_all (n := 21) (am_ck_ok am_k166_0) (fun _ => rfl) h
theorem am_k167_0 : am_ck 167 0 100 = true := by decide +kernel
theorem am_k167_100 : am_ck 167 100 100 = true := by decide +kernel
theorem am_k167_200 : am_ck 167 200 31 = true := by decide +kernel
theorem am_o167 (pc : Nat) (q : am_E) (h : am_tb 167 pc = some q) : am_oke 167 pc q = true := am_okr_all (n := 230) ((am_okr_app (am_okr_app (am_ck_ok am_k167_0) (am_ck_ok am_k167_100)) (am_ck_ok am_k167_200))) (fun _ => rfl) h
theorem am_k168_0 : am_ck 168 0 30 = true := by decide +kernel
theorem am_o168 (pc : Nat) (q : am_E) (h : am_tb 168 pc = some q) : am_oke 168 pc q = true := am_okr_all (n := 29) (am_ck_ok am_k168_0) (fun _ => rfl) h
theorem am_k169_0 : am_ck 169 0 48 = true := by decide +kernel
theorem am_o169 (pc : Nat) (q : am_E) (h : am_tb 169 pc = some q) : am_oke 169 pc q = true := am_okr_all (n := 47) (am_ck_ok am_k169_0) (fun _ => rfl) h
theorem am_k170_0 : am_ck 170 0 49 = true := by decide +kernel
theorem am_o170 (pc : Nat) (q : am_E) (h : am_tb 170 pc = some q) : am_oke 170 pc q = true := am_okr_all (n := 48) (am_ck_ok am_k170_0) (fun _ => rfl) h
theorem am_k171_0 : am_ck 171 0 100 = true := by decide +kernel
theorem am_k171_100 : am_ck 171 100 6 = true := by decide +kernel
theorem am_o171 (pc : Nat) (q : am_E) (h : am_tb 171 pc = some q) : am_oke 171 pc q = true := am_okr_all (n := 105) ((am_okr_app (am_ck_ok am_k171_0) (am_ck_ok am_k171_100))) (fun _ => rfl) h
theorem am_k172_0 : am_ck 172 0 99 = true := by decide +kernel
theorem am_o172 (pc : Nat) (q : am_E) (h : am_tb 172 pc = some q) : am_oke 172 pc q = true := am_okr_all (n := 98) (am_ck_ok am_k172_0) (fun _ => rfl) h
theorem am_k173_0 : am_ck 173 0 100 = true := by decide +kernel
theorem am_k173_100 : am_ck 173 100 52 = true := by decide +kernel
theorem am_o173 (pc : Nat) (q : am_E) (h : am_tb 173 pc = some q) : am_oke 173 pc q = true := am_okr_all (n := 151) ((am_okr_app (am_ck_ok am_k173_0) (am_ck_ok am_k173_100))) (fun _ => rfl) h
theorem am_k174_0 : am_ck 174 0 100 = true := by decide +kernel
theorem am_k174_100 : am_ck 174 100 11 = true := by decide +kernel
theorem am_o174 (pc : Nat) (q : am_E) (h : am_tb 174 pc = some q) : am_oke 174 pc q = true := am_okr_all (n := 110) ((am_okr_app (am_ck_ok am_k174_0) (am_ck_ok am_k174_100))) (fun _ => rfl) h
theorem am_k175_0 : am_ck 175 0 87 = true := by decide +kernel
theorem am_o175 (pc : Nat) (q : am_E) (h : am_tb 175 pc = some q) : am_oke 175 pc q = true := am_okr_all (n := 86) (am_ck_ok am_k175_0) (fun _ => rfl) h
theorem am_k176_0 : am_ck 176 0 46 = true := by decide +kernel
theorem am_o176 (pc : Nat) (q : am_E) (h : am_tb 176 pc = some q) : am_oke 176 pc q = true := am_okr_all (n := 45) (am_ck_ok am_k176_0) (fun _ => rfl) h
theorem am_k177_0 : am_ck 177 0 100 = true := by decide +kernel
theorem am_k177_100 : am_ck 177 100 100 = true := by decide +kernel
theorem am_k177_200 : am_ck 177 200 55 = true := by decide +kernel
theorem am_o177 (pc : Nat) (q : am_E) (h : am_tb 177 pc = some q) : am_oke 177 pc q = true := am_okr_all (n := 254) ((am_okr_app (am_okr_app (am_ck_ok am_k177_0) (am_ck_ok am_k177_100)) (am_ck_ok am_k177_200))) (fun _ => rfl) h
theorem am_k178_0 : am_ck 178 0 83 = true := by decide +kernel
theorem am_o178 (pc : Nat) (q : am_E) (h : am_tb 178 pc = some q) : am_oke 178 pc q = true := am_okr_all (n := 82) (am_ck_ok am_k178_0) (fun _ => rfl) h
theorem am_k179_0 : am_ck 179 0 30 = true := by decide +kernel
theorem am_o179 (pc : Nat) (q : am_E) (h : am_tb 179 pc = some q) : am_oke 179 pc q = true := am_okr_all (n := 29) (am_ck_ok am_k179_0) (fun _ => rfl) h
theorem am_k180_0 : am_ck 180 0 48 = true := by decide +kernel
theorem am_o180 (pc : Nat) (q : am_E) (h : am_tb 180 pc = some q) : am_oke 180 pc q = true := am_okr_all (n := 47) (am_ck_ok am_k180_0) (fun _ => rfl) h
theorem am_k181_0 : am_ck 181 0 59 = true := by decide +kernel
theorem am_o181 (pc : Nat) (q : am_E) (h : am_tb 181 pc = some q) : am_oke 181 pc q = true := am_okr_all (n := 58) (am_ck_ok am_k181_0) (fun _ => rfl) h
theorem am_k182_0 : am_ck 182 0 73 = true := by decide +kernel
theorem am_o182 (pc : Nat) (q : am_E) (h : am_tb 182 pc = some q) : am_oke 182 pc q = true := am_okr_all (n := 72) (am_ck_ok am_k182_0) (fun _ => rfl) h
theorem am_k183_0 : am_ck 183 0 20 = true := by decide +kernel
theorem am_o183 (pc : Nat) (q : am_E) (h : am_tb 183 pc = some q) : am_oke 183 pc q = true := am_okr_all (n := 19) (am_ck_ok am_k183_0) (fun _ => rfl) h
theorem am_k184_0 : am_ck 184 0 77 = true := by decide +kernel
theorem am_o184 (pc : Nat) (q : am_E) (h : am_tb 184 pc = some q) : am_oke 184 pc q = true := am_okr_all (n := 76) (am_ck_ok am_k184_0) (fun _ => rfl) h
theorem am_k185_0 : am_ck 185 0 27 = true := by decide +kernel
theorem am_o185 (pc : Nat) (q : am_E) (h : am_tb 185 pc = some q) : am_oke 185 pc q = true := am_okr_all (n := 26) (am_ck_ok am_k185_0) (fun _ => rfl) h
theorem am_k186_0 : am_ck 186 0 21 = true := by decide +kernel
theorem am_o186 (pc : Nat) (q : am_E) (h : am_tb 186 pc = some q) : am_oke 186 pc q = true := am_okr_all (n := 20) (am_ck_ok am_k186_0) (fun _ => rfl) h
theorem am_k187_0 : am_ck 187 0 29 = true := by decide +kernel
theorem am_o187 (pc : Nat) (q : am_E) (h : am_tb 187 pc = some q) : am_oke 187 pc q = true := am_okr_all (n := 28) (am_ck_ok am_k187_0) (fun _ => rfl) h
theorem am_k188_0 : am_ck 188 0 100 = true := by decide +kernel
theorem am_k188_100 : am_ck 188 100 75 = true := by decide +kernel
theorem am_o188 (pc : Nat) (q : am_E) (h : am_tb 188 pc = some q) : am_oke 188 pc q = true := am_okr_all (n := 174) ((am_okr_app (am_ck_ok am_k188_0) (am_ck_ok am_k188_100))) (fun _ => rfl) h
theorem am_k189_0 : am_ck 189 0 100 = true := by decide +kernel
theorem am_k189_100 : am_ck 189 100 100 = true := by decide +kernel
theorem am_k189_200 : am_ck 189 200 59 = true := by decide +kernel
theorem am_o189 (pc : Nat) (q : am_E) (h : am_tb 189 pc = some q) : am_oke 189 pc q = true := am_okr_all (n := 258) ((am_okr_app (am_okr_app (am_ck_ok am_k189_0) (am_ck_ok am_k189_100)) (am_ck_ok am_k189_200))) (fun _ => rfl) h
theorem am_k190_0 : am_ck 190 0 81 = true := by decide +kernel
theorem am_o190 (pc : Nat) (q : am_E) (h : am_tb 190 pc = some q) : am_oke 190 pc q = true := am_okr_all (n := 80) (am_ck_ok am_k190_0) (fun _ => rfl) h
theorem am_k191_0 : am_ck 191 0 45 = true := by decide +kernel
theorem am_o191 (pc : Nat) (q : am_E) (h : am_tb 191 pc = some q) : am_oke 191 pc q = true := am_okr_all (n := 44) (am_ck_ok am_k191_0) (fun _ => rfl) h
theorem am_k192_0 : am_ck 192 0 100 = true := by decide +kernel
theorem am_k192_100 : am_ck 192 100 8 = true := by decide +kernel
theorem am_o192 (pc : Nat) (q : am_E) (h : am_tb 192 pc = some q) : am_oke 192 pc q = true := am_okr_all (n := 107) ((am_okr_app (am_ck_ok am_k192_0) (am_ck_ok am_k192_100))) (fun _ => rfl) h
theorem am_k193_0 : am_ck 193 0 87 = true := by decide +kernel
theorem am_o193 (pc : Nat) (q : am_E) (h : am_tb 193 pc = some q) : am_oke 193 pc q = true := am_okr_all (n := 86) (am_ck_ok am_k193_0) (fun _ => rfl) h
