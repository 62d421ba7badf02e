theorem am_m0 : am_okm 0 := ⟨am_tw_at 2 121 rfl rfl, am_hw_in (z := (1, 11)) (by decide +kernel), (fun h => absurd h (by decide +kernel)), (fun _ => am_hw_in (z := (2, 120)) (by decide +kernel)), (fun h => absurd h (by decide +kernel)), by decide +kernel, by decide +kernel, (fun _ => by decide +kernel), by decide +kernel, by decide +kernel⟩
theorem am_m1 : am_okm 1 := ⟨am_tw_at 4 61 rfl rfl, am_hw_in (z := (1, 11)) (by decide +kernel), (fun h => absurd h (by decide +kernel)), (fun _ => am_hw_in (z := (4, 59)) (by decide +kernel)), (fun _ => am_hw_in (z := (4, 60)) (by decide +kernel)), by decide +kernel, by decide +kernel, (fun h => absurd h (by decide +kernel)), by decide +kernel, by decide +kernel⟩
theorem am_m2 : am_okm 2 := ⟨am_tw_at 4 77 rfl rfl, am_hw_in (z := (1, 11)) (by decide +kernel), (fun h => absurd h (by decide +kernel)), (fun _ => am_hw_in (z := (4, 76)) (by decide +kernel)), (fun _ => am_hw_in (z := (0, 30)) (by decide +kernel)), by decide +kernel, by decide +kernel, (fun h => absurd h (by decide +kernel)), by decide +kernel, by decide +kernel⟩
theorem am_m3 : am_okm 3 := ⟨am_tw_at 4 69 rfl rfl, am_hw_in (z := (1, 11)) (by decide +kernel), (fun h => absurd h (by decide +kernel)), (fun _ => am_hw_in (z := (4, 67)) (by decide +kernel)), (fun _ => am_hw_in (z := (4, 68)) (by decide +kernel)), by decide +kernel, by decide +kernel, (fun h => absurd h (by decide +kernel)), by decide +kernel, by decide +kernel⟩
theorem am_m4 : am_okm 4 := ⟨am_tw_at 4 93 rfl rfl, am_hw_in (z := (1, 11)) (by decide +kernel), (fun _ => am_hw_in (z := (4, 92)) (by decide +kernel)), (fun h => absurd rfl h), (fun h => absurd h (by decide +kernel)), by decide +kernel, by decide +kernel, (fun h => absurd h (by decide +kernel)), by decide +kernel, by decide +kernel⟩
theorem am_m5 : am_okm 5 := ⟨am_tw_at 4 65 rfl rfl, am_hw_in (z := (1, 11)) (by decide +kernel), (fun h => absurd h (by decide +kernel)), (fun _ => am_hw_in (z := (4, 63)) (by decide +kernel)), (fun _ => am_hw_in (z := (4, 64)) (by decide +kernel)), by decide +kernel, by decide +kernel, (fun h => absurd h (by decide +kernel)), by decide +kernel, by decide +kernel⟩
theorem am_m6 : am_okm 6 := ⟨am_tw_at 4 153 rfl rfl, am_hw_in (z := (1, 11)) (by decide +kernel), (fun h => absurd h (by decide +kernel)), (fun _ => am_hw_in (z := (4, 151)) (by decide +kernel)), (fun _ => am_hw_in (z := (4, 152)) (by decide +kernel)), by decide +kernel, by decide +kernel, (fun h => absurd h (by decide +kernel)), by decide +kernel, by decide +kernel⟩
theorem am_m7 : am_okm 7 := ⟨am_tw_at 4 157 rfl rfl, am_hw_in (z := (1, 11)) (by decide +kernel), (fun h => absurd h (by decide +kernel)), (fun _ => am_hw_in (z := (4, 155)) (by decide +kernel)), (fun _ => am_hw_in (z := (4, 156)) (by decide +kernel)), by decide +kernel, by decide +kernel, (fun h => absurd h (by decide +kernel)), by decide +kernel, by decide +kernel⟩
theorem am_m8 : am_okm 8 := ⟨am_tw_at 4 161 rfl rfl, am_hw_in (z := (1, 11)) (by decide +kernel), (fun h => absurd h (by decide +kernel)), (fun _ => am_hw_in (z := (4, 160)) (by decide +kernel)), (fun _ => am_hw_in (z := (0, 32)) (by decide +kernel)), by decide +kernel, by decide +kernel, (fun h => absurd h (by decide +kernel)), by decide +kernel, by decide +kernel⟩
theorem am_m9 : am_okm 9 := ⟨am_tw_at 4 165 rfl rfl, am_hw_in (z := (1, 11)) (by decide +kernel), (fun h => absurd h (by decide +kernel)), (fun _ => am_hw_in (z := (4, 164)) (by decide +kernel)), (fun _ => am_hw_in (z := (0, 33)) (by decide +kernel)), by decide +kernel, by decide +kernel, (fun h => absurd h (by decide +kernel)), by decide +kernel, by decide +kernel⟩
theorem am_m10 : am_okm 10 := ⟨am_tw_at 4 177 rfl rfl, am_hw_in (z := (1, 11)) (by decide +kernel), (fun h => absurd h (by decide +kernel)), (fun _ => am_hw_in (z := (4, 176)) (by decide +kernel)), (fun _ => am_hw_in (z := (0, 34)) (by decide +kernel)), by decide +kernel, by decide +kernel, (fun h => absurd h (by decide +kernel)), by decide +kernel, by decide +kernel⟩
theorem am_m11 : am_okm 11 := ⟨am_tw_at 1 43 rfl rfl, am_hw_in (z := (1, 3)) (by decide +kernel), (fun h => absurd h (by decide +kernel)), (fun _ => am_hw_in (z := (1, 42)) (by decide +kernel)), (fun h => absurd h (by decide +kernel)), by decide +kernel, by decide +kernel, (fun _ => by decide +kernel), by decide +kernel, by decide +kernel⟩
theorem am_m12 : am_okm 12 := ⟨am_tw_at 3 118 rfl rfl, am_hw_in (z := (1, 3)) (by decide +kernel), (fun h => absurd h (by decide +kernel)), (fun _ => am_hw_in (z := (3, 116)) (by decide +kernel)), (fun _ => am_hw_in (z := (3, 117)) (by decide +kernel)), by decide +kernel, by decide +kernel, (fun h => absurd h (by decide +kernel)), by decide +kernel, by decide +kernel⟩
theorem am_m13 : am_okm 13 := ⟨am_tw_at 3 217 rfl rfl, am_hw_in (z := (1, 3)) (by decide +kernel), (fun h => absurd h (by decide +kernel)), (fun _ => am_hw_in (z := (3, 215)) (by decide +kernel)), (fun _ => am_hw_in (z := (3, 216)) (by decide +kernel)), by decide +kernel, by decide +kernel, (fun h => absurd h (by decide +kernel)), by decide +kernel, by decide +kernel⟩
theorem am_m14 : am_okm 14 := ⟨am_tw_at 3 190 rfl rfl, am_hw_in (z := (1, 3)) (by decide +kernel), (fun h => absurd h (by decide +kernel)), (fun _ => am_hw_in (z := (3, 188)) (by decide +kernel)), (fun _ => am_hw_in (z := (3, 189)) (by decide +kernel)), by decide +kernel, by decide +kernel, (fun h => absurd h (by decide +kernel)), by decide +kernel, by decide +kernel⟩
theorem am_m15 : am_okm 15 := ⟨am_tw_at 4 81 rfl rfl, am_hw_in (z := (1, 3)) (by decide +kernel), (fun h => absurd h (by decide +kernel)), (fun _ => am_hw_in (z := (4, 79)) (by decide +kernel)), (fun _ => am_hw_in (z := (4, 80)) (by decide +kernel)), by decide +kernel, by decide +kernel, (fun h => absurd h (by decide +kernel)), by decide +kernel, by decide +kernel⟩
theorem am_m16 : am_okm 16 := ⟨am_tw_at 4 85 rfl rfl, am_hw_in (z := (1, 3)) (by decide +kernel), (fun _ => am_hw_in (z := (4, 84)) (by decide +kernel)), (fun h => absurd rfl h), (fun h => absurd h (by decide +kernel)), by decide +kernel, by decide +kernel, (fun h => absurd h (by decide +kernel)), by decide +kernel, by decide +kernel⟩
theorem am_m17 : am_okm 17 := ⟨am_tw_at 2 203 rfl rfl, am_hw_in (z := (1, 14)) (by decide +kernel), (fun h => absurd h (by decide +kernel)), (fun _ => am_hw_in (z := (2, 202)) (by decide +kernel)), (fun h => absurd h (by decide +kernel)), by decide +kernel, by decide +kernel, (fun _ => by decide +kernel), by decide +kernel, by decide +kernel⟩
theorem am_m18 : am_okm 18 := ⟨am_tw_at 3 237 rfl rfl, am_hw_in (z := (1, 14)) (by decide +kernel), (fun h => absurd h (by decide +kernel)), (fun _ => am_hw_in (z := (3, 235)) (by decide +kernel)), (fun _ => am_hw_in (z := (3, 236)) (by decide +kernel)), by decide +kernel, by decide +kernel, (fun h => absurd h (by decide +kernel)), by decide +kernel, by decide +kernel⟩
theorem am_m19 : am_okm 19 := ⟨am_tw_at 4 117 rfl rfl, am_hw_in (z := (1, 14)) (by decide +kernel), (fun h => absurd h (by decide +kernel)), (fun _ => am_hw_in (z := (4, 115)) (by decide +kernel)), (fun _ => am_hw_in (z := (4, 116)) (by decide +kernel)), by decide +kernel, by decide +kernel, (fun h => absurd h (by decide +kernel)), by decide +kernel, by decide +kernel⟩
theorem am_m20 : am_okm 20 := ⟨am_tw_at 5 184 rfl rfl, am_hw_in (z := (1, 14)) (by decide +kernel), (fun h => absurd h (by decide +kernel)), (fun _ => am_hw_in (z := (5, 182)) (by decide +kernel)), (fun _ => am_hw_in (z := (5, 183)) (by decide +kernel)), by decide +kernel, by decide +kernel, (fun h => absurd h (by decide +kernel)), by decide +kernel, by decide +kernel⟩
theorem am_m21 : am_okm 21 := ⟨am_tw_at 2 193 rfl rfl, am_hw_in (z := (1, 13)) (by decide +kernel), (fun h => absurd h (by decide +kernel)), (fun _ => am_hw_in (z := (2, 192)) (by decide +kernel)), (fun h => absurd h (by decide +kernel)), by decide +kernel, by decide +kernel, (fun _ => by decide +kernel), by decide +kernel, by decide +kernel⟩
theorem am_m22 : am_okm 22 := ⟨am_tw_at 4 219 rfl rfl, am_hw_in (z := (1, 13)) (by decide +kernel), (fun h => absurd h (by decide +kernel)), (fun _ => am_hw_in (z := (4, 217)) (by decide +kernel)), (fun _ => am_hw_in (z := (4, 218)) (by decide +kernel)), by decide +kernel, by decide +kernel, (fun h => absurd h (by decide +kernel)), by decide +kernel, by decide +kernel⟩
theorem am_m23 : am_okm 23 := ⟨am_tw_at 4 226 rfl rfl, am_hw_in (z := (1, 13)) (by decide +kernel), (fun h => absurd h (by decide +kernel)), (fun _ => am_hw_in (z := (4, 225)) (by decide +kernel)), (fun _ => am_hw_in (z := (0, 37)) (by decide +kernel)), by decide +kernel, by decide +kernel, (fun h => absurd h (by decide +kernel)), by decide +kernel, by decide +kernel⟩
theorem am_m24 : am_okm 24 := ⟨am_tw_at 4 230 rfl rfl, am_hw_in (z := (1, 13)) (by decide +kernel), (fun h => absurd h (by decide +kernel)), (fun _ => am_hw_in (z := (4, 229)) (by decide +kernel)), (fun _ => am_hw_in (z := (0, 38)) (by decide +kernel)), by decide +kernel, by decide +kernel, (fun h => absurd h (by decide +kernel)), by decide +kernel, by decide +kernel⟩
theorem am_m25 : am_okm 25 := ⟨am_tw_at 1 197 rfl rfl, am_hw_in (z := (1, 4)) (by decide +kernel), (fun h => absurd h (by decide +kernel)), (fun _ => am_hw_in (z := (1, 196)) (by decide +kernel)), (fun h => absurd h (by decide +kernel)), by decide +kernel, by decide +kernel, (fun _ => by decide +kernel), by decide +kernel, by decide +kernel⟩
theorem am_m26 : am_okm 26 := ⟨am_tw_at 3 71 rfl rfl, am_hw_in (z := (1, 4)) (by decide +kernel), (fun h => absurd h (by decide +kernel)), (fun _ => am_hw_in (z := (3, 69)) (by decide +kernel)), (fun _ => am_hw_in (z := (3, 70)) (by decide +kernel)), by decide +kernel, by decide +kernel, (fun h => absurd h (by decide +kernel)), by decide +kernel, by decide +kernel⟩
theorem am_m27 : am_okm 27 := ⟨am_tw_at 3 135 rfl rfl, am_hw_in (z := (1, 4)) (by decide +kernel), (fun h => absurd h (by decide +kernel)), (fun _ => am_hw_in (z := (3, 134)) (by decide +kernel)), (fun _ => am_hw_in (z := (0, 8)) (by decide +kernel)), by decide +kernel, by decide +kernel, (fun h => absurd h (by decide +kernel)), by decide +kernel, by decide +kernel⟩
theorem am_m28 : am_okm 28 := ⟨am_tw_at 3 123 rfl rfl, am_hw_in (z := (1, 4)) (by decide +kernel), (fun h => absurd h (by decide +kernel)), (fun _ => am_hw_in (z := (3, 122)) (by decide +kernel)), (fun _ => am_hw_in (z := (0, 5)) (by decide +kernel)), by decide +kernel, by decide +kernel, (fun h => absurd h (by decide +kernel)), by decide +kernel, by decide +kernel⟩
theorem am_m29 : am_okm 29 := ⟨am_tw_at 3 131 rfl rfl, am_hw_in (z := (1, 4)) (by decide +kernel), (fun h => absurd h (by decide +kernel)), (fun _ => am_hw_in (z := (3, 130)) (by decide +kernel)), (fun _ => am_hw_in (z := (0, 7)) (by decide +kernel)), by decide +kernel, by decide +kernel, (fun h => absurd h (by decide +kernel)), by decide +kernel, by decide +kernel⟩
theorem am_m30 : am_okm 30 := ⟨am_tw_at 3 148 rfl rfl, am_hw_in (z := (1, 4)) (by decide +kernel), (fun h => absurd h (by decide +kernel)), (fun _ => am_hw_in (z := (3, 147)) (by decide +kernel)), (fun _ => am_hw_in (z := (0, 11)) (by decide +kernel)), by decide +kernel, by decide +kernel, (fun h => absurd h (by decide +kernel)), by decide +kernel, by decide +kernel⟩
theorem am_m31 : am_okm 31 := ⟨am_tw_at 3 144 rfl rfl, am_hw_in (z := (1, 4)) (by decide +kernel), (fun h => absurd h (by decide +kernel)), (fun _ => am_hw_in (z := (3, 143)) (by decide +kernel)), (fun _ => am_hw_in (z := (0, 10)) (by decide +kernel)), by decide +kernel, by decide +kernel, (fun h => absurd h (by decide +kernel)), by decide +kernel, by decide +kernel⟩
theorem am_m32 : am_okm 32 := ⟨am_tw_at 3 161 rfl rfl, am_hw_in (z := (1, 4)) (by decide +kernel), (fun h => absurd h (by decide +kernel)), (fun _ => am_hw_in (z := (3, 160)) (by decide +kernel)), (fun _ => am_hw_in (z := (0, 14)) (by decide +kernel)), by decide +kernel, by decide +kernel, (fun h => absurd h (by decide +kernel)), by decide +kernel, by decide +kernel⟩
theorem am_m33 : am_okm 33 := ⟨am_tw_at 3 139 rfl rfl, am_hw_in (z := (1, 4)) (by decide +kernel), (fun h => absurd h (by decide +kernel)), (fun _ => am_hw_in (z := (3, 138)) (by decide +kernel)), (fun _ => am_hw_in (z := (0, 9)) (by decide +kernel)), by decide +kernel, by decide +kernel, (fun h => absurd h (by decide +kernel)), by decide +kernel, by decide +kernel⟩
theorem am_m34 : am_okm 34 := ⟨am_tw_at 3 156 rfl rfl, am_hw_in (z := (1, 4)) (by decide +kernel), (fun h => absurd h (by decide +kernel)), (fun _ => am_hw_in (z := (3, 155)) (by decide +kernel)), (fun _ => am_hw_in (z := (0, 13)) (by decide +kernel)), by decide +kernel, by decide +kernel, (fun h => absurd h (by decide +kernel)), by decide +kernel, by decide +kernel⟩
theorem am_m35 : am_okm 35 := ⟨am_tw_at 3 127 rfl rfl, am_hw_in (z := (1, 4)) (by decide +kernel), (fun h => absurd h (by decide +kernel)), (fun _ => am_hw_in (z := (3, 126)) (by decide +kernel)), (fun _ => am_hw_in (z := (0, 6)) (by decide +kernel)), by decide +kernel, by decide +kernel, (fun h => absurd h (by decide +kernel)), by decide +kernel, by decide +kernel⟩
theorem am_m36 : am_okm 36 := ⟨am_tw_at 3 152 rfl rfl, am_hw_in (z := (1, 4)) (by decide +kernel), (fun h => absurd h (by decide +kernel)), (fun _ => am_hw_in (z := (3, 151)) (by decide +kernel)), (fun _ => am_hw_in (z := (0, 12)) (by decide +kernel)), by decide +kernel, by decide +kernel, (fun h => absurd h (by decide +kernel)), by decide +kernel, by decide +kernel⟩
theorem am_m37 : am_okm 37 := ⟨am_tw_at 3 165 rfl rfl, am_hw_in (z := (1, 4)) (by decide +kernel), (fun h => absurd h (by decide +kernel)), (fun _ => am_hw_in (z := (3, 164)) (by decide +kernel)), (fun _ => am_hw_in (z := (0, 15)) (by decide +kernel)), by decide +kernel, by decide +kernel, (fun h => absurd h (by decide +kernel)), by decide +kernel, by decide +kernel⟩
theorem am_m38 : am_okm 38 := ⟨am_tw_at 3 169 rfl rfl, am_hw_in (z := (1, 4)) (by decide +kernel), (fun h => absurd h (by decide +kernel)), (fun _ => am_hw_in (z := (3, 168)) (by decide +kernel)), (fun _ => am_hw_in (z := (0, 16)) (by decide +kernel)), by decide +kernel, by decide +kernel, (fun h => absurd h (by decide +kernel)), by decide +kernel, by decide +kernel⟩
theorem am_m39 : am_okm 39 := ⟨am_tw_at 3 173 rfl rfl, am_hw_in (z := (1, 4)) (by decide +kernel), (fun h => absurd h (by decide +kernel)), (fun _ => am_hw_in (z := (3, 172)) (by decide +kernel)), (fun _ => am_hw_in (z := (0, 17)) (by decide +kernel)), by decide +kernel, by decide +kernel, (fun h => absurd h (by decide +kernel)), by decide +kernel, by decide +kernel⟩
theorem am_m40 : am_okm 40 := ⟨am_tw_at 3 177 rfl rfl, am_hw_in (z := (1, 4)) (by decide +kernel), (fun h => absurd h (by decide +kernel)), (fun _ => am_hw_in (z := (3, 176)) (by decide +kernel)), (fun _ => am_hw_in (z := (0, 18)) (by decide +kernel)), by decide +kernel, by decide +kernel, (fun h => absurd h (by decide +kernel)), by decide +kernel, by decide +kernel⟩
theorem am_m41 : am_okm 41 := ⟨am_tw_at 3 181 rfl rfl, am_hw_in (z := (1, 4)) (by decide +kernel), (fun h => absurd h (by decide +kernel)), (fun _ => am_hw_in (z := (3, 180)) (by decide +kernel)), (fun _ => am_hw_in (z := (0, 19)) (by decide +kernel)), by decide +kernel, by decide +kernel, (fun h => absurd h (by decide +kernel)), by decide +kernel, by decide +kernel⟩
theorem am_m42 : am_okm 42 := ⟨am_tw_at 3 186 rfl rfl, am_hw_in (z := (1, 4)) (by decide +kernel), (fun h => absurd h (by decide +kernel)), (fun _ => am_hw_in (z := (3, 185)) (by decide +kernel)), (fun _ => am_hw_in (z := (0, 20)) (by decide +kernel)), by decide +kernel, by decide +kernel, (fun h => absurd h (by decide +kernel)), by decide +kernel, by decide +kernel⟩
theorem am_m43 : am_okm 43 := ⟨am_tw_at 3 194 rfl rfl, am_hw_in (z := (1, 4)) (by decide +kernel), (fun h => absurd h (by decide +kernel)), (fun _ => am_hw_in (z := (3, 193)) (by decide +kernel)), (fun _ => am_hw_in (z := (0, 21)) (by decide +kernel)), by decide +kernel, by decide +kernel, (fun h => absurd h (by decide +kernel)), by decide +kernel, by decide +kernel⟩
theorem am_m44 : am_okm 44 := ⟨am_tw_at 3 198 rfl rfl, am_hw_in (z := (1, 4)) (by decide +kernel), (fun h => absurd h (by decide +kernel)), (fun _ => am_hw_in (z := (3, 197)) (by decide +kernel)), (fun _ => am_hw_in (z := (0, 22)) (by decide +kernel)), by decide +kernel, by decide +kernel, (fun h => absurd h (by decide +kernel)), by decide +kernel, by decide +kernel⟩
theorem am_m45 : am_okm 45 := ⟨am_tw_at 3 225 rfl rfl, am_hw_in (z := (1, 4)) (by decide +kernel), (fun h => absurd h (by decide +kernel)), (fun _ => am_hw_in (z := (3, 224)) (by decide +kernel)), (fun _ => am_hw_in (z := (0, 27)) (by decide +kernel)), by decide +kernel, by decide +kernel, (fun h => absurd h (by decide +kernel)), by decide +kernel, by decide +kernel⟩
theorem am_m46 : am_okm 46 := ⟨am_tw_at 3 213 rfl rfl, am_hw_in (z := (1, 4)) (by decide +kernel), (fun h => absurd h (by decide +kernel)), (fun _ => am_hw_in (z := (3, 212)) (by decide +kernel)), (fun _ => am_hw_in (z := (0, 25)) (by decide +kernel)), by decide +kernel, by decide +kernel, (fun h => absurd h (by decide +kernel)), by decide +kernel, by decide +kernel⟩
theorem am_m47 : am_okm 47 := ⟨am_tw_at 3 202 rfl rfl, am_hw_in (z := (1, 4)) (by decide +kernel), (fun h => absurd h (by decide +kernel)), (fun _ => am_hw_in (z := (3, 201)) (by decide +kernel)), (fun _ => am_hw_in (z := (0, 23)) (by decide +kernel)), by decide +kernel, by decide +kernel, (fun h => absurd h (by decide +kernel)), by decide +kernel, by decide +kernel⟩
theorem am_m48 : am_okm 48 := ⟨am_tw_at 3 206 rfl rfl, am_hw_in (z := (1, 4)) (by decide +kernel), (fun h => absurd h (by decide +kernel)), (fun _ => am_hw_in (z := (3, 205)) (by decide +kernel)), (fun _ => am_hw_in (z := (0, 24)) (by decide +kernel)), by decide +kernel, by decide +kernel, (fun h => absurd h (by decide +kernel)), by decide +kernel, by decide +kernel⟩
theorem am_m49 : am_okm 49 := ⟨am_tw_at 3 221 rfl rfl, am_hw_in (z := (1, 4)) (by decide +kernel), (fun h => absurd h (by decide +kernel)), (fun _ => am_hw_in (z := (3, 220)) (by decide +kernel)), (fun _ => am_hw_in (z := (0, 26)) (by decide +kernel)), by decide +kernel, by decide +kernel, (fun h => absurd h (by decide +kernel)), by decide +kernel, by decide +kernel⟩
theorem am_m50 : am_okm 50 := ⟨am_tw_at 3 209 rfl rfl, am_hw_in (z := (1, 4)) (by decide +kernel), (fun _ => am_hw_in (z := (3, 208)) (by decide +kernel)), (fun h => absurd rfl h), (fun h => absurd h (by decide +kernel)), by decide +kernel, by decide +kernel, (fun h => absurd h (by decide +kernel)), by decide +kernel, by decide +kernel⟩
theorem am_m51 : am_okm 51 := ⟨am_tw_at 2 159 rfl rfl, am_hw_in (z := (1, 12)) (by decide +kernel), (fun h => absurd h (by decide +kernel)), (fun _ => am_hw_in (z := (2, 158)) (by decide +kernel)), (fun h => absurd h (by decide +kernel)), by decide +kernel, by decide +kernel, (fun _ => by decide +kernel), by decide +kernel, by decide +kernel⟩
theorem am_m52 : am_okm 52 := ⟨am_tw_at 5 6 rfl rfl, am_hw_in (z := (1, 12)) (by decide +kernel), (fun h => absurd h (by decide +kernel)), (fun _ => am_hw_in (z := (5, 4)) (by decide +kernel)), (fun _ => am_hw_in (z := (5, 5)) (by decide +kernel)), by decide +kernel, by decide +kernel, (fun h => absurd h (by decide +kernel)), by decide +kernel, by decide +kernel⟩
theorem am_m53 : am_okm 53 := ⟨am_tw_at 5 10 rfl rfl, am_hw_in (z := (1, 12)) (by decide +kernel), (fun h => absurd h (by decide +kernel)), (fun _ => am_hw_in (z := (5, 8)) (by decide +kernel)), (fun _ => am_hw_in (z := (5, 9)) (by decide +kernel)), by decide +kernel, by decide +kernel, (fun h => absurd h (by decide +kernel)), by decide +kernel, by decide +kernel⟩
theorem am_m54 : am_okm 54 := ⟨am_tw_at 5 16 rfl rfl, am_hw_in (z := (1, 12)) (by decide +kernel), (fun h => absurd h (by decide +kernel)), (fun _ => am_hw_in (z := (5, 15)) (by decide +kernel)), (fun _ => am_hw_in (z := (0, 39)) (by decide +kernel)), by decide +kernel, by decide +kernel, (fun h => absurd h (by decide +kernel)), by decide +kernel, by decide +kernel⟩
theorem am_m55 : am_okm 55 := ⟨am_tw_at 5 21 rfl rfl, am_hw_in (z := (1, 12)) (by decide +kernel), (fun h => absurd h (by decide +kernel)), (fun _ => am_hw_in (z := (5, 20)) (by decide +kernel)), (fun _ => am_hw_in (z := (0, 40)) (by decide +kernel)), by decide +kernel, by decide +kernel, (fun h => absurd h (by decide +kernel)), by decide +kernel, by decide +kernel⟩
theorem am_m56 : am_okm 56 := ⟨am_tw_at 2 70 rfl rfl, am_hw_in (z := (1, 10)) (by decide +kernel), (fun h => absurd h (by decide +kernel)), (fun _ => am_hw_in (z := (2, 69)) (by decide +kernel)), (fun h => absurd h (by decide +kernel)), by decide +kernel, by decide +kernel, (fun _ => by decide +kernel), by decide +kernel, by decide +kernel⟩
theorem am_m57 : am_okm 57 := ⟨am_tw_at 3 229 rfl rfl, am_hw_in (z := (1, 10)) (by decide +kernel), (fun h => absurd h (by decide +kernel)), (fun _ => am_hw_in (z := (3, 227)) (by decide +kernel)), (fun _ => am_hw_in (z := (3, 228)) (by decide +kernel)), by decide +kernel, by decide +kernel, (fun h => absurd h (by decide +kernel)), by decide +kernel, by decide +kernel⟩
theorem am_m58 : am_okm 58 := ⟨am_tw_at 4 197 rfl rfl, am_hw_in (z := (1, 10)) (by decide +kernel), (fun h => absurd h (by decide +kernel)), (fun _ => am_hw_in (z := (4, 195)) (by decide +kernel)), (fun _ => am_hw_in (z := (4, 196)) (by decide +kernel)), by decide +kernel, by decide +kernel, (fun h => absurd h (by decide +kernel)), by decide +kernel, by decide +kernel⟩
theorem am_m59 : am_okm 59 := ⟨am_tw_at 4 26 rfl rfl, am_hw_in (z := (1, 10)) (by decide +kernel), (fun h => absurd h (by decide +kernel)), (fun _ => am_hw_in (z := (4, 24)) (by decide +kernel)), (fun _ => am_hw_in (z := (4, 25)) (by decide +kernel)), by decide +kernel, by decide +kernel, (fun h => absurd h (by decide +kernel)), by decide +kernel, by decide +kernel⟩
theorem am_m60 : am_okm 60 := ⟨am_tw_at 4 131 rfl rfl, am_hw_in (z := (1, 10)) (by decide +kernel), (fun h => absurd h (by decide +kernel)), (fun _ => am_hw_in (z := (4, 129)) (by decide +kernel)), (fun _ => am_hw_in (z := (4, 130)) (by decide +kernel)), by decide +kernel, by decide +kernel, (fun h => absurd h (by decide +kernel)), by decide +kernel, by decide +kernel⟩
theorem am_m61 : am_okm 61 := ⟨am_tw_at 4 123 rfl rfl, am_hw_in (z := (1, 10)) (by decide +kernel), (fun h => absurd h (by decide +kernel)), (fun _ => am_hw_in (z := (4, 121)) (by decide +kernel)), (fun _ => am_hw_in (z := (4, 122)) (by decide +kernel)), by decide +kernel, by decide +kernel, (fun h => absurd h (by decide +kernel)), by decide +kernel, by decide +kernel⟩
theorem am_m62 : am_okm 62 := ⟨am_tw_at 4 22 rfl rfl, am_hw_in (z := (1, 10)) (by decide +kernel), (fun h => absurd h (by decide +kernel)), (fun _ => am_hw_in (z := (4, 20)) (by decide +kernel)), (fun _ => am_hw_in (z := (4, 21)) (by decide +kernel)), by decide +kernel, by decide +kernel, (fun h => absurd h (by decide +kernel)), by decide +kernel, by decide +kernel⟩
theorem am_m63 : am_okm 63 := ⟨am_tw_at 4 184 rfl rfl, am_hw_in (z := (1, 10)) (by decide +kernel), (fun h => absurd h (by decide +kernel)), (fun _ => am_hw_in (z := (4, 182)) (by decide +kernel)), (fun _ => am_hw_in (z := (4, 183)) (by decide +kernel)), by decide +kernel, by decide +kernel, (fun h => absurd h (by decide +kernel)), by decide +kernel, by decide +kernel⟩
theorem am_m64 : am_okm 64 := ⟨am_tw_at 4 53 rfl rfl, am_hw_in (z := (1, 10)) (by decide +kernel), (fun h => absurd h (by decide +kernel)), (fun _ => am_hw_in (z := (4, 51)) (by decide +kernel)), (fun _ => am_hw_in (z := (4, 52)) (by decide +kernel)), by decide +kernel, by decide +kernel, (fun h => absurd h (by decide +kernel)), by decide +kernel, by decide +kernel⟩
theorem am_m65 : am_okm 65 := ⟨am_tw_at 4 169 rfl rfl, am_hw_in (z := (1, 10)) (by decide +kernel), (fun h => absurd h (by decide +kernel)), (fun _ => am_hw_in (z := (4, 167)) (by decide +kernel)), (fun _ => am_hw_in (z := (4, 168)) (by decide +kernel)), by decide +kernel, by decide +kernel, (fun h => absurd h (by decide +kernel)), by decide +kernel, by decide +kernel⟩
theorem am_m66 : am_okm 66 := ⟨am_tw_at 2 217 rfl rfl, am_hw_in (z := (1, 15)) (by decide +kernel), (fun h => absurd h (by decide +kernel)), (fun _ => am_hw_in (z := (2, 216)) (by decide +kernel)), (fun h => absurd h (by decide +kernel)), by decide +kernel, by decide +kernel, (fun _ => by decide +kernel), by decide +kernel, by decide +kernel⟩
theorem am_m67 : am_okm 67 := ⟨am_tw_at 4 1 rfl rfl, am_hw_in (z := (1, 15)) (by decide +kernel), (fun h => absurd h (by decide +kernel)), (fun _ => am_hw_in (z := (3, 239)) (by decide +kernel)), (fun _ => am_hw_in (z := (4, 0)) (by decide +kernel)), by decide +kernel, by decide +kernel, (fun h => absurd h (by decide +kernel)), by decide +kernel, by decide +kernel⟩
theorem am_m68 : am_okm 68 := ⟨am_tw_at 5 116 rfl rfl, am_hw_in (z := (1, 15)) (by decide +kernel), (fun h => absurd h (by decide +kernel)), (fun _ => am_hw_in (z := (5, 114)) (by decide +kernel)), (fun _ => am_hw_in (z := (5, 115)) (by decide +kernel)), by decide +kernel, by decide +kernel, (fun h => absurd h (by decide +kernel)), by decide +kernel, by decide +kernel⟩
theorem am_m69 : am_okm 69 := ⟨am_tw_at 5 140 rfl rfl, am_hw_in (z := (1, 15)) (by decide +kernel), (fun h => absurd h (by decide +kernel)), (fun _ => am_hw_in (z := (5, 138)) (by decide +kernel)), (fun _ => am_hw_in (z := (5, 139)) (by decide +kernel)), by decide +kernel, by decide +kernel, (fun h => absurd h (by decide +kernel)), by decide +kernel, by decide +kernel⟩
theorem am_m70 : am_okm 70 := ⟨am_tw_at 5 136 rfl rfl, am_hw_in (z := (1, 15)) (by decide +kernel), (fun h => absurd h (by decide +kernel)), (fun _ => am_hw_in (z := (5, 134)) (by decide +kernel)), (fun _ => am_hw_in (z := (5, 135)) (by decide +kernel)), by decide +kernel, by decide +kernel, (fun h => absurd h (by decide +kernel)), by decide +kernel, by decide +kernel⟩
theorem am_m71 : am_okm 71 := ⟨am_tw_at 5 150 rfl rfl, am_hw_in (z := (1, 15)) (by decide +kernel), (fun h => absurd h (by decide +kernel)), (fun _ => am_hw_in (z := (5, 149)) (by decide +kernel)), (fun _ => am_hw_in (z := (0, 45)) (by decide +kernel)), by decide +kernel, by decide +kernel, (fun h => absurd h (by decide +kernel)), by decide +kernel, by decide +kernel⟩
theorem am_m72 : am_okm 72 := ⟨am_tw_at 5 145 rfl rfl, am_hw_in (z := (1, 15)) (by decide +kernel), (fun h => absurd h (by decide +kernel)), (fun _ => am_hw_in (z := (5, 143)) (by decide +kernel)), (fun _ => am_hw_in (z := (5, 144)) (by decide +kernel)), by decide +kernel, by decide +kernel, (fun h => absurd h (by decide +kernel)), by decide +kernel, by decide +kernel⟩
theorem am_m73 : am_okm 73 := ⟨am_tw_at 5 158 rfl rfl, am_hw_in (z := (1, 15)) (by decide +kernel), (fun h => absurd h (by decide +kernel)), (fun _ => am_hw_in (z := (5, 156)) (by decide +kernel)), (fun _ => am_hw_in (z := (5, 157)) (by decide +kernel)), by decide +kernel, by decide +kernel, (fun h => absurd h (by decide +kernel)), by decide +kernel, by decide +kernel⟩
theorem am_m74 : am_okm 74 := ⟨am_tw_at 5 167 rfl rfl, am_hw_in (z := (1, 15)) (by decide +kernel), (fun h => absurd h (by decide +kernel)), (fun _ => am_hw_in (z := (5, 165)) (by decide +kernel)), (fun _ => am_hw_in (z := (5, 166)) (by decide +kernel)), by decide +kernel, by decide +kernel, (fun h => absurd h (by decide +kernel)), by decide +kernel, by decide +kernel⟩
theorem am_m75 : am_okm 75 := ⟨am_tw_at 1 203 rfl rfl, am_hw_in (z := (1, 5)) (by decide +kernel), (fun h => absurd h (by decide +kernel)), (fun _ => am_hw_in (z := (1, 202)) (by decide +kernel)), (fun h => absurd h (by decide +kernel)), by decide +kernel, by decide +kernel, (fun _ => by decide +kernel), by decide +kernel, by decide +kernel⟩
theorem am_m76 : am_okm 76 := ⟨am_tw_at 3 75 rfl rfl, am_hw_in (z := (1, 5)) (by decide +kernel), (fun h => absurd h (by decide +kernel)), (fun _ => am_hw_in (z := (3, 73)) (by decide +kernel)), (fun _ => am_hw_in (z := (3, 74)) (by decide +kernel)), by decide +kernel, by decide +kernel, (fun h => absurd h (by decide +kernel)), by decide +kernel, by decide +kernel⟩
theorem am_m77 : am_okm 77 := ⟨am_tw_at 3 78 rfl rfl, am_hw_in (z := (1, 5)) (by decide +kernel), (fun _ => am_hw_in (z := (3, 77)) (by decide +kernel)), (fun h => absurd rfl h), (fun h => absurd h (by decide +kernel)), by decide +kernel, by decide +kernel, (fun h => absurd h (by decide +kernel)), by decide +kernel, by decide +kernel⟩
theorem am_m78 : am_okm 78 := ⟨am_tw_at 3 92 rfl rfl, am_hw_in (z := (1, 5)) (by decide +kernel), (fun _ => am_hw_in (z := (3, 91)) (by decide +kernel)), (fun h => absurd rfl h), (fun h => absurd h (by decide +kernel)), by decide +kernel, by decide +kernel, (fun h => absurd h (by decide +kernel)), by decide +kernel, by decide +kernel⟩
theorem am_m79 : am_okm 79 := ⟨am_tw_at 3 86 rfl rfl, am_hw_in (z := (1, 5)) (by decide +kernel), (fun h => absurd h (by decide +kernel)), (fun _ => am_hw_in (z := (3, 85)) (by decide +kernel)), (fun _ => am_hw_in (z := (0, 2)) (by decide +kernel)), by decide +kernel, by decide +kernel, (fun h => absurd h (by decide +kernel)), by decide +kernel, by decide +kernel⟩
theorem am_m80 : am_okm 80 := ⟨am_tw_at 3 82 rfl rfl, am_hw_in (z := (1, 5)) (by decide +kernel), (fun h => absurd h (by decide +kernel)), (fun _ => am_hw_in (z := (3, 81)) (by decide +kernel)), (fun _ => am_hw_in (z := (0, 1)) (by decide +kernel)), by decide +kernel, by decide +kernel, (fun h => absurd h (by decide +kernel)), by decide +kernel, by decide +kernel⟩
theorem am_m81 : am_okm 81 := ⟨am_tw_at 3 96 rfl rfl, am_hw_in (z := (1, 5)) (by decide +kernel), (fun h => absurd h (by decide +kernel)), (fun _ => am_hw_in (z := (3, 95)) (by decide +kernel)), (fun _ => am_hw_in (z := (0, 3)) (by decide +kernel)), by decide +kernel, by decide +kernel, (fun h => absurd h (by decide +kernel)), by decide +kernel, by decide +kernel⟩
theorem am_m82 : am_okm 82 := ⟨am_tw_at 3 104 rfl rfl, am_hw_in (z := (1, 5)) (by decide +kernel), (fun h => absurd h (by decide +kernel)), (fun _ => am_hw_in (z := (3, 103)) (by decide +kernel)), (fun _ => am_hw_in (z := (0, 4)) (by decide +kernel)), by decide +kernel, by decide +kernel, (fun h => absurd h (by decide +kernel)), by decide +kernel, by decide +kernel⟩
theorem am_m83 : am_okm 83 := ⟨am_tw_at 3 107 rfl rfl, am_hw_in (z := (1, 5)) (by decide +kernel), (fun _ => am_hw_in (z := (3, 106)) (by decide +kernel)), (fun h => absurd rfl h), (fun h => absurd h (by decide +kernel)), by decide +kernel, by decide +kernel, (fun h => absurd h (by decide +kernel)), by decide +kernel, by decide +kernel⟩
theorem am_m84 : am_okm 84 := ⟨am_tw_at 1 37 rfl rfl, am_hw_in (z := (1, 2)) (by decide +kernel), (fun h => absurd h (by decide +kernel)), (fun _ => am_hw_in (z := (1, 36)) (by decide +kernel)), (fun h => absurd h (by decide +kernel)), by decide +kernel, by decide +kernel, (fun _ => by decide +kernel), by decide +kernel, by decide +kernel⟩
theorem am_m85 : am_okm 85 := ⟨am_tw_at 3 111 rfl rfl, am_hw_in (z := (1, 2)) (by decide +kernel), (fun h => absurd h (by decide +kernel)), (fun _ => am_hw_in (z := (3, 109)) (by decide +kernel)), (fun _ => am_hw_in (z := (3, 110)) (by decide +kernel)), by decide +kernel, by decide +kernel, (fun h => absurd h (by decide +kernel)), by decide +kernel, by decide +kernel⟩
theorem am_m86 : am_okm 86 := ⟨am_tw_at 1 29 rfl rfl, am_hw_in (z := (1, 1)) (by decide +kernel), (fun h => absurd h (by decide +kernel)), (fun _ => am_hw_in (z := (1, 28)) (by decide +kernel)), (fun h => absurd h (by decide +kernel)), by decide +kernel, by decide +kernel, (fun _ => by decide +kernel), by decide +kernel, by decide +kernel⟩
theorem am_m87 : am_okm 87 := ⟨am_tw_at 3 59 rfl rfl, am_hw_in (z := (1, 1)) (by decide +kernel), (fun h => absurd h (by decide +kernel)), (fun _ => am_hw_in (z := (3, 57)) (by decide +kernel)), (fun _ => am_hw_in (z := (3, 58)) (by decide +kernel)), by decide +kernel, by decide +kernel, (fun h => absurd h (by decide +kernel)), by decide +kernel, by decide +kernel⟩
theorem am_m88 : am_okm 88 := ⟨am_tw_at 3 63 rfl rfl, am_hw_in (z := (1, 1)) (by decide +kernel), (fun h => absurd h (by decide +kernel)), (fun _ => am_hw_in (z := (3, 62)) (by decide +kernel)), (fun _ => am_hw_in (z := (0, 0)) (by decide +kernel)), by decide +kernel, by decide +kernel, (fun h => absurd h (by decide +kernel)), by decide +kernel, by decide +kernel⟩
theorem am_m89 : am_okm 89 := ⟨am_tw_at 3 67 rfl rfl, am_hw_in (z := (1, 1)) (by decide +kernel), (fun h => absurd h (by decide +kernel)), (fun _ => am_hw_in (z := (3, 65)) (by decide +kernel)), (fun _ => am_hw_in (z := (3, 66)) (by decide +kernel)), by decide +kernel, by decide +kernel, (fun h => absurd h (by decide +kernel)), by decide +kernel, by decide +kernel⟩
theorem am_m90 : am_okm 90 := ⟨am_tw_at 4 5 rfl rfl, am_hw_in (z := (1, 1)) (by decide +kernel), (fun h => absurd h (by decide +kernel)), (fun _ => am_hw_in (z := (4, 3)) (by decide +kernel)), (fun _ => am_hw_in (z := (4, 4)) (by decide +kernel)), by decide +kernel, by decide +kernel, (fun h => absurd h (by decide +kernel)), by decide +kernel, by decide +kernel⟩
theorem am_m91 : am_okm 91 := ⟨am_tw_at 4 9 rfl rfl, am_hw_in (z := (1, 1)) (by decide +kernel), (fun h => absurd h (by decide +kernel)), (fun _ => am_hw_in (z := (4, 7)) (by decide +kernel)), (fun _ => am_hw_in (z := (4, 8)) (by decide +kernel)), by decide +kernel, by decide +kernel, (fun h => absurd h (by decide +kernel)), by decide +kernel, by decide +kernel⟩
theorem am_m92 : am_okm 92 := ⟨am_tw_at 3 89 rfl rfl, am_hw_in (z := (1, 1)) (by decide +kernel), (fun _ => am_hw_in (z := (3, 88)) (by decide +kernel)), (fun h => absurd rfl h), (fun h => absurd h (by decide +kernel)), by decide +kernel, by decide +kernel, (fun h => absurd h (by decide +kernel)), by decide +kernel, by decide +kernel⟩
theorem am_m93 : am_okm 93 := ⟨am_tw_at 4 18 rfl rfl, am_hw_in (z := (1, 1)) (by decide +kernel), (fun h => absurd h (by decide +kernel)), (fun _ => am_hw_in (z := (4, 17)) (by decide +kernel)), (fun _ => am_hw_in (z := (0, 28)) (by decide +kernel)), by decide +kernel, by decide +kernel, (fun h => absurd h (by decide +kernel)), by decide +kernel, by decide +kernel⟩
theorem am_m94 : am_okm 94 := ⟨am_tw_at 4 37 rfl rfl, am_hw_in (z := (1, 1)) (by decide +kernel), (fun h => absurd h (by decide +kernel)), (fun _ => am_hw_in (z := (4, 36)) (by decide +kernel)), (fun _ => am_hw_in (z := (0, 29)) (by decide +kernel)), by decide +kernel, by decide +kernel, (fun h => absurd h (by decide +kernel)), by decide +kernel, by decide +kernel⟩
theorem am_m95 : am_okm 95 := ⟨am_tw_at 4 49 rfl rfl, am_hw_in (z := (1, 1)) (by decide +kernel), (fun _ => am_hw_in (z := (4, 48)) (by decide +kernel)), (fun h => absurd rfl h), (fun h => absurd h (by decide +kernel)), by decide +kernel, by decide +kernel, (fun h => absurd h (by decide +kernel)), by decide +kernel, by decide +kernel⟩
theorem am_m96 : am_okm 96 := ⟨am_tw_at 4 138 rfl rfl, am_hw_in (z := (1, 1)) (by decide +kernel), (fun _ => am_hw_in (z := (4, 137)) (by decide +kernel)), (fun h => absurd rfl h), (fun h => absurd h (by decide +kernel)), by decide +kernel, by decide +kernel, (fun h => absurd h (by decide +kernel)), by decide +kernel, by decide +kernel⟩
theorem am_m97 : am_okm 97 := ⟨am_tw_at 4 14 rfl rfl, am_hw_in (z := (1, 1)) (by decide +kernel), (fun h => absurd h (by decide +kernel)), (fun _ => am_hw_in (z := (4, 12)) (by decide +kernel)), (fun _ => am_hw_in (z := (4, 13)) (by decide +kernel)), by decide +kernel, by decide +kernel, (fun h => absurd h (by decide +kernel)), by decide +kernel, by decide +kernel⟩
theorem am_m98 : am_okm 98 := ⟨am_tw_at 4 33 rfl rfl, am_hw_in (z := (1, 1)) (by decide +kernel), (fun h => absurd h (by decide +kernel)), (fun _ => am_hw_in (z := (4, 31)) (by decide +kernel)), (fun _ => am_hw_in (z := (4, 32)) (by decide +kernel)), by decide +kernel, by decide +kernel, (fun h => absurd h (by decide +kernel)), by decide +kernel, by decide +kernel⟩
theorem am_m99 : am_okm 99 := ⟨am_tw_at 4 42 rfl rfl, am_hw_in (z := (1, 1)) (by decide +kernel), (fun h => absurd h (by decide +kernel)), (fun _ => am_hw_in (z := (4, 40)) (by decide +kernel)), (fun _ => am_hw_in (z := (4, 41)) (by decide +kernel)), by decide +kernel, by decide +kernel, (fun h => absurd h (by decide +kernel)), by decide +kernel, by decide +kernel⟩
theorem am_m100 : am_okm 100 := ⟨am_tw_at 4 46 rfl rfl, am_hw_in (z := (1, 1)) (by decide +kernel), (fun h => absurd h (by decide +kernel)), (fun _ => am_hw_in (z := (4, 44)) (by decide +kernel)), (fun _ => am_hw_in (z := (4, 45)) (by decide +kernel)), by decide +kernel, by decide +kernel, (fun h => absurd h (by decide +kernel)), by decide +kernel, by decide +kernel⟩
theorem am_m101 : am_okm 101 := ⟨am_tw_at 4 57 rfl rfl, am_hw_in (z := (1, 1)) (by decide +kernel), (fun h => absurd h (by decide +kernel)), (fun _ => am_hw_in (z := (4, 55)) (by decide +kernel)), (fun _ => am_hw_in (z := (4, 56)) (by decide +kernel)), by decide +kernel, by decide +kernel, (fun h => absurd h (by decide +kernel)), by decide +kernel, by decide +kernel⟩
theorem am_m102 : am_okm 102 := ⟨am_tw_at 4 103 rfl rfl, am_hw_in (z := (1, 1)) (by decide +kernel), (fun h => absurd h (by decide +kernel)), (fun _ => am_hw_in (z := (4, 101)) (by decide +kernel)), (fun _ => am_hw_in (z := (4, 102)) (by decide +kernel)), by decide +kernel, by decide +kernel, (fun h => absurd h (by decide +kernel)), by decide +kernel, by decide +kernel⟩
theorem am_m103 : am_okm 103 := ⟨am_tw_at 4 109 rfl rfl, am_hw_in (z := (1, 1)) (by decide +kernel), (fun h => absurd h (by decide +kernel)), (fun _ => am_hw_in (z := (4, 107)) (by decide +kernel)), (fun _ => am_hw_in (z := (4, 108)) (by decide +kernel)), by decide +kernel, by decide +kernel, (fun h => absurd h (by decide +kernel)), by decide +kernel, by decide +kernel⟩
theorem am_m104 : am_okm 104 := ⟨am_tw_at 4 135 rfl rfl, am_hw_in (z := (1, 1)) (by decide +kernel), (fun h => absurd h (by decide +kernel)), (fun _ => am_hw_in (z := (4, 133)) (by decide +kernel)), (fun _ => am_hw_in (z := (4, 134)) (by decide +kernel)), by decide +kernel, by decide +kernel, (fun h => absurd h (by decide +kernel)), by decide +kernel, by decide +kernel⟩
theorem am_m105 : am_okm 105 := ⟨am_tw_at 4 143 rfl rfl, am_hw_in (z := (1, 1)) (by decide +kernel), (fun h => absurd h (by decide +kernel)), (fun _ => am_hw_in (z := (4, 141)) (by decide +kernel)), (fun _ => am_hw_in (z := (4, 142)) (by decide +kernel)), by decide +kernel, by decide +kernel, (fun h => absurd h (by decide +kernel)), by decide +kernel, by decide +kernel⟩
theorem am_m106 : am_okm 106 := ⟨am_tw_at 4 113 rfl rfl, am_hw_in (z := (1, 1)) (by decide +kernel), (fun h => absurd h (by decide +kernel)), (fun _ => am_hw_in (z := (4, 112)) (by decide +kernel)), (fun _ => am_hw_in (z := (0, 31)) (by decide +kernel)), by decide +kernel, by decide +kernel, (fun h => absurd h (by decide +kernel)), by decide +kernel, by decide +kernel⟩
theorem am_m107 : am_okm 107 := ⟨am_tw_at 4 149 rfl rfl, am_hw_in (z := (1, 1)) (by decide +kernel), (fun h => absurd h (by decide +kernel)), (fun _ => am_hw_in (z := (4, 147)) (by decide +kernel)), (fun _ => am_hw_in (z := (4, 148)) (by decide +kernel)), by decide +kernel, by decide +kernel, (fun h => absurd h (by decide +kernel)), by decide +kernel, by decide +kernel⟩
theorem am_m108 : am_okm 108 := ⟨am_tw_at 4 193 rfl rfl, am_hw_in (z := (1, 1)) (by decide +kernel), (fun h => absurd h (by decide +kernel)), (fun _ => am_hw_in (z := (4, 192)) (by decide +kernel)), (fun _ => am_hw_in (z := (0, 35)) (by decide +kernel)), by decide +kernel, by decide +kernel, (fun h => absurd h (by decide +kernel)), by decide +kernel, by decide +kernel⟩
theorem am_m109 : am_okm 109 := ⟨am_tw_at 4 189 rfl rfl, am_hw_in (z := (1, 1)) (by decide +kernel), (fun h => absurd h (by decide +kernel)), (fun _ => am_hw_in (z := (4, 187)) (by decide +kernel)), (fun _ => am_hw_in (z := (4, 188)) (by decide +kernel)), by decide +kernel, by decide +kernel, (fun h => absurd h (by decide +kernel)), by decide +kernel, by decide +kernel⟩
theorem am_m110 : am_okm 110 := ⟨am_tw_at 4 201 rfl rfl, am_hw_in (z := (1, 1)) (by decide +kernel), (fun h => absurd h (by decide +kernel)), (fun _ => am_hw_in (z := (4, 199)) (by decide +kernel)), (fun _ => am_hw_in (z := (4, 200)) (by decide +kernel)), by decide +kernel, by decide +kernel, (fun h => absurd h (by decide +kernel)), by decide +kernel, by decide +kernel⟩
theorem am_m111 : am_okm 111 := ⟨am_tw_at 4 211 rfl rfl, am_hw_in (z := (1, 1)) (by decide +kernel), (fun h => absurd h (by decide +kernel)), (fun _ => am_hw_in (z := (4, 209)) (by decide +kernel)), (fun _ => am_hw_in (z := (4, 210)) (by decide +kernel)), by decide +kernel, by decide +kernel, (fun h => absurd h (by decide +kernel)), by decide +kernel, by decide +kernel⟩
theorem am_m112 : am_okm 112 := ⟨am_tw_at 4 205 rfl rfl, am_hw_in (z := (1, 1)) (by decide +kernel), (fun h => absurd h (by decide +kernel)), (fun _ => am_hw_in (z := (4, 204)) (by decide +kernel)), (fun _ => am_hw_in (z := (0, 36)) (by decide +kernel)), by decide +kernel, by decide +kernel, (fun h => absurd h (by decide +kernel)), by decide +kernel, by decide +kernel⟩
theorem am_m113 : am_okm 113 := ⟨am_tw_at 4 215 rfl rfl, am_hw_in (z := (1, 1)) (by decide +kernel), (fun h => absurd h (by decide +kernel)), (fun _ => am_hw_in (z := (4, 213)) (by decide +kernel)), (fun _ => am_hw_in (z := (4, 214)) (by decide +kernel)), by decide +kernel, by decide +kernel, (fun h => absurd h (by decide +kernel)), by decide +kernel, by decide +kernel⟩
theorem am_m114 : am_okm 114 := ⟨am_tw_at 4 234 rfl rfl, am_hw_in (z := (1, 1)) (by decide +kernel), (fun h => absurd h (by decide +kernel)), (fun _ => am_hw_in (z := (4, 232)) (by decide +kernel)), (fun _ => am_hw_in (z := (4, 233)) (by decide +kernel)), by decide +kernel, by decide +kernel, (fun h => absurd h (by decide +kernel)), by decide +kernel, by decide +kernel⟩
theorem am_m115 : am_okm 115 := ⟨am_tw_at 4 238 rfl rfl, am_hw_in (z := (1, 1)) (by decide +kernel), (fun h => absurd h (by decide +kernel)), (fun _ => am_hw_in (z := (4, 236)) (by decide +kernel)), (fun _ => am_hw_in (z := (4, 237)) (by decide +kernel)), by decide +kernel, by decide +kernel, (fun h => absurd h (by decide +kernel)), by decide +kernel, by decide +kernel⟩
theorem am_m116 : am_okm 116 := ⟨am_tw_at 5 2 rfl rfl, am_hw_in (z := (1, 1)) (by decide +kernel), (fun h => absurd h (by decide +kernel)), (fun _ => am_hw_in (z := (5, 0)) (by decide +kernel)), (fun _ => am_hw_in (z := (5, 1)) (by decide +kernel)), by decide +kernel, by decide +kernel, (fun h => absurd h (by decide +kernel)), by decide +kernel, by decide +kernel⟩
theorem am_m117 : am_okm 117 := ⟨am_tw_at 5 32 rfl rfl, am_hw_in (z := (1, 1)) (by decide +kernel), (fun h => absurd h (by decide +kernel)), (fun _ => am_hw_in (z := (5, 31)) (by decide +kernel)), (fun _ => am_hw_in (z := (0, 41)) (by decide +kernel)), by decide +kernel, by decide +kernel, (fun h => absurd h (by decide +kernel)), by decide +kernel, by decide +kernel⟩
theorem am_m118 : am_okm 118 := ⟨am_tw_at 5 28 rfl rfl, am_hw_in (z := (1, 1)) (by decide +kernel), (fun h => absurd h (by decide +kernel)), (fun _ => am_hw_in (z := (5, 26)) (by decide +kernel)), (fun _ => am_hw_in (z := (5, 27)) (by decide +kernel)), by decide +kernel, by decide +kernel, (fun h => absurd h (by decide +kernel)), by decide +kernel, by decide +kernel⟩
theorem am_m119 : am_okm 119 := ⟨am_tw_at 5 36 rfl rfl, am_hw_in (z := (1, 1)) (by decide +kernel), (fun h => absurd h (by decide +kernel)), (fun _ => am_hw_in (z := (5, 34)) (by decide +kernel)), (fun _ => am_hw_in (z := (5, 35)) (by decide +kernel)), by decide +kernel, by decide +kernel, (fun h => absurd h (by decide +kernel)), by decide +kernel, by decide +kernel⟩
theorem am_m120 : am_okm 120 := ⟨am_tw_at 5 40 rfl rfl, am_hw_in (z := (1, 1)) (by decide +kernel), (fun h => absurd h (by decide +kernel)), (fun _ => am_hw_in (z := (5, 38)) (by decide +kernel)), (fun _ => am_hw_in (z := (5, 39)) (by decide +kernel)), by decide +kernel, by decide +kernel, (fun h => absurd h (by decide +kernel)), by decide +kernel, by decide +kernel⟩
theorem am_m121 : am_okm 121 := ⟨am_tw_at 5 44 rfl rfl, am_hw_in (z := (1, 1)) (by decide +kernel), (fun h => absurd h (by decide +kernel)), (fun _ => am_hw_in (z := (5, 42)) (by decide +kernel)), (fun _ => am_hw_in (z := (5, 43)) (by decide +kernel)), by decide +kernel, by decide +kernel, (fun h => absurd h (by decide +kernel)), by decide +kernel, by decide +kernel⟩
theorem am_m122 : am_okm 122 := ⟨am_tw_at 5 48 rfl rfl, am_hw_in (z := (1, 1)) (by decide +kernel), (fun h => absurd h (by decide +kernel)), (fun _ => am_hw_in (z := (5, 46)) (by decide +kernel)), (fun _ => am_hw_in (z := (5, 47)) (by decide +kernel)), by decide +kernel, by decide +kernel, (fun h => absurd h (by decide +kernel)), by decide +kernel, by decide +kernel⟩
theorem am_m123 : am_okm 123 := ⟨am_tw_at 5 61 rfl rfl, am_hw_in (z := (1, 1)) (by decide +kernel), (fun h => absurd h (by decide +kernel)), (fun _ => am_hw_in (z := (5, 59)) (by decide +kernel)), (fun _ => am_hw_in (z := (5, 60)) (by decide +kernel)), by decide +kernel, by decide +kernel, (fun h => absurd h (by decide +kernel)), by decide +kernel, by decide +kernel⟩
theorem am_m124 : am_okm 124 := ⟨am_tw_at 5 53 rfl rfl, am_hw_in (z := (1, 1)) (by decide +kernel), (fun h => absurd h (by decide +kernel)), (fun _ => am_hw_in (z := (5, 52)) (by decide +kernel)), (fun _ => am_hw_in (z := (0, 42)) (by decide +kernel)), by decide +kernel, by decide +kernel, (fun h => absurd h (by decide +kernel)), by decide +kernel, by decide +kernel⟩
theorem am_m125 : am_okm 125 := ⟨am_tw_at 5 56 rfl rfl, am_hw_in (z := (1, 1)) (by decide +kernel), (fun _ => am_hw_in (z := (5, 55)) (by decide +kernel)), (fun h => absurd rfl h), (fun h => absurd h (by decide +kernel)), by decide +kernel, by decide +kernel, (fun h => absurd h (by decide +kernel)), by decide +kernel, by decide +kernel⟩
theorem am_m126 : am_okm 126 := ⟨am_tw_at 5 65 rfl rfl, am_hw_in (z := (1, 1)) (by decide +kernel), (fun h => absurd h (by decide +kernel)), (fun _ => am_hw_in (z := (5, 63)) (by decide +kernel)), (fun _ => am_hw_in (z := (5, 64)) (by decide +kernel)), by decide +kernel, by decide +kernel, (fun h => absurd h (by decide +kernel)), by decide +kernel, by decide +kernel⟩
theorem am_m127 : am_okm 127 := ⟨am_tw_at 5 70 rfl rfl, am_hw_in (z := (1, 1)) (by decide +kernel), (fun _ => am_hw_in (z := (5, 69)) (by decide +kernel)), (fun h => absurd rfl h), (fun h => absurd h (by decide +kernel)), by decide +kernel, by decide +kernel, (fun h => absurd h (by decide +kernel)), by decide +kernel, by decide +kernel⟩
theorem am_m128 : am_okm 128 := ⟨am_tw_at 5 75 rfl rfl, am_hw_in (z := (1, 1)) (by decide +kernel), (fun h => absurd h (by decide +kernel)), (fun _ => am_hw_in (z := (5, 73)) (by decide +kernel)), (fun _ => am_hw_in (z := (5, 74)) (by decide +kernel)), by decide +kernel, by decide +kernel, (fun h => absurd h (by decide +kernel)), by decide +kernel, by decide +kernel⟩
theorem am_m129 : am_okm 129 := ⟨am_tw_at 5 79 rfl rfl, am_hw_in (z := (1, 1)) (by decide +kernel), (fun h => absurd h (by decide +kernel)), (fun _ => am_hw_in (z := (5, 77)) (by decide +kernel)), (fun _ => am_hw_in (z := (5, 78)) (by decide +kernel)), by decide +kernel, by decide +kernel, (fun h => absurd h (by decide +kernel)), by decide +kernel, by decide +kernel⟩
theorem am_m130 : am_okm 130 := ⟨am_tw_at 5 83 rfl rfl, am_hw_in (z := (1, 1)) (by decide +kernel), (fun h => absurd h (by decide +kernel)), (fun _ => am_hw_in (z := (5, 82)) (by decide +kernel)), (fun _ => am_hw_in (z := (0, 43)) (by decide +kernel)), by decide +kernel, by decide +kernel, (fun h => absurd h (by decide +kernel)), by decide +kernel, by decide +kernel⟩
theorem am_m131 : am_okm 131 := ⟨am_tw_at 5 87 rfl rfl, am_hw_in (z := (1, 1)) (by decide +kernel), (fun h => absurd h (by decide +kernel)), (fun _ => am_hw_in (z := (5, 85)) (by decide +kernel)), (fun _ => am_hw_in (z := (5, 86)) (by decide +kernel)), by decide +kernel, by decide +kernel, (fun h => absurd h (by decide +kernel)), by decide +kernel, by decide +kernel⟩
theorem am_m132 : am_okm 132 := ⟨am_tw_at 5 91 rfl rfl, am_hw_in (z := (1, 1)) (by decide +kernel), (fun h => absurd h (by decide +kernel)), (fun _ => am_hw_in (z := (5, 89)) (by decide +kernel)), (fun _ => am_hw_in (z := (5, 90)) (by decide +kernel)), by decide +kernel, by decide +kernel, (fun h => absurd h (by decide +kernel)), by decide +kernel, by decide +kernel⟩
theorem am_m133 : am_okm 133 := ⟨am_tw_at 5 95 rfl rfl, am_hw_in (z := (1, 1)) (by decide +kernel), (fun h => absurd h (by decide +kernel)), (fun _ => am_hw_in (z := (5, 93)) (by decide +kernel)), (fun _ => am_hw_in (z := (5, 94)) (by decide +kernel)), by decide +kernel, by decide +kernel, (fun h => absurd h (by decide +kernel)), by decide +kernel, by decide +kernel⟩
theorem am_m134 : am_okm 134 := ⟨am_tw_at 5 100 rfl rfl, am_hw_in (z := (1, 1)) (by decide +kernel), (fun h => absurd h (by decide +kernel)), (fun _ => am_hw_in (z := (5, 98)) (by decide +kernel)), (fun _ => am_hw_in (z := (5, 99)) (by decide +kernel)), by decide +kernel, by decide +kernel, (fun h => absurd h (by decide +kernel)), by decide +kernel, by decide +kernel⟩
theorem am_m135 : am_okm 135 := ⟨am_tw_at 5 104 rfl rfl, am_hw_in (z := (1, 1)) (by decide +kernel), (fun h => absurd h (by decide +kernel)), (fun _ => am_hw_in (z := (5, 102)) (by decide +kernel)), (fun _ => am_hw_in (z := (5, 103)) (by decide +kernel)), by decide +kernel, by decide +kernel, (fun h => absurd h (by decide +kernel)), by decide +kernel, by decide +kernel⟩
theorem am_m136 : am_okm 136 := ⟨am_tw_at 5 108 rfl rfl, am_hw_in (z := (1, 1)) (by decide +kernel), (fun h => absurd h (by decide +kernel)), (fun _ => am_hw_in (z := (5, 107)) (by decide +kernel)), (fun _ => am_hw_in (z := (0, 44)) (by decide +kernel)), by decide +kernel, by decide +kernel, (fun h => absurd h (by decide +kernel)), by decide +kernel, by decide +kernel⟩
theorem am_m137 : am_okm 137 := ⟨am_tw_at 5 112 rfl rfl, am_hw_in (z := (1, 1)) (by decide +kernel), (fun h => absurd h (by decide +kernel)), (fun _ => am_hw_in (z := (5, 110)) (by decide +kernel)), (fun _ => am_hw_in (z := (5, 111)) (by decide +kernel)), by decide +kernel, by decide +kernel, (fun h => absurd h (by decide +kernel)), by decide +kernel, by decide +kernel⟩
theorem am_m138 : am_okm 138 := ⟨am_tw_at 5 120 rfl rfl, am_hw_in (z := (1, 1)) (by decide +kernel), (fun h => absurd h (by decide +kernel)), (fun _ => am_hw_in (z := (5, 118)) (by decide +kernel)), (fun _ => am_hw_in (z := (5, 119)) (by decide +kernel)), by decide +kernel, by decide +kernel, (fun h => absurd h (by decide +kernel)), by decide +kernel, by decide +kernel⟩
theorem am_m139 : am_okm 139 := ⟨am_tw_at 5 124 rfl rfl, am_hw_in (z := (1, 1)) (by decide +kernel), (fun h => absurd h (by decide +kernel)), (fun _ => am_hw_in (z := (5, 122)) (by decide +kernel)), (fun _ => am_hw_in (z := (5, 123)) (by decide +kernel)), by decide +kernel, by decide +kernel, (fun h => absurd h (by decide +kernel)), by decide +kernel, by decide +kernel⟩
theorem am_m140 : am_okm 140 := ⟨am_tw_at 5 128 rfl rfl, am_hw_in (z := (1, 1)) (by decide +kernel), (fun h => absurd h (by decide +kernel)), (fun _ => am_hw_in (z := (5, 126)) (by decide +kernel)), (fun _ => am_hw_in (z := (5, 127)) (by decide +kernel)), by decide +kernel, by decide +kernel, (fun h => absurd h (by decide +kernel)), by decide +kernel, by decide +kernel⟩
theorem am_m141 : am_okm 141 := ⟨am_tw_at 5 132 rfl rfl, am_hw_in (z := (1, 1)) (by decide +kernel), (fun h => absurd h (by decide +kernel)), (fun _ => am_hw_in (z := (5, 130)) (by decide +kernel)), (fun _ => am_hw_in (z := (5, 131)) (by decide +kernel)), by decide +kernel, by decide +kernel, (fun h => absurd h (by decide +kernel)), by decide +kernel, by decide +kernel⟩
theorem am_m142 : am_okm 142 := ⟨am_tw_at 5 154 rfl rfl, am_hw_in (z := (1, 1)) (by decide +kernel), (fun h => absurd h (by decide +kernel)), (fun _ => am_hw_in (z := (5, 152)) (by decide +kernel)), (fun _ => am_hw_in (z := (5, 153)) (by decide +kernel)), by decide +kernel, by decide +kernel, (fun h => absurd h (by decide +kernel)), by decide +kernel, by decide +kernel⟩
theorem am_m143 : am_okm 143 := ⟨am_tw_at 5 163 rfl rfl, am_hw_in (z := (1, 1)) (by decide +kernel), (fun h => absurd h (by decide +kernel)), (fun _ => am_hw_in (z := (5, 162)) (by decide +kernel)), (fun _ => am_hw_in (z := (0, 46)) (by decide +kernel)), by decide +kernel, by decide +kernel, (fun h => absurd h (by decide +kernel)), by decide +kernel, by decide +kernel⟩
theorem am_m144 : am_okm 144 := ⟨am_tw_at 5 172 rfl rfl, am_hw_in (z := (1, 1)) (by decide +kernel), (fun h => absurd h (by decide +kernel)), (fun _ => am_hw_in (z := (5, 170)) (by decide +kernel)), (fun _ => am_hw_in (z := (5, 171)) (by decide +kernel)), by decide +kernel, by decide +kernel, (fun h => absurd h (by decide +kernel)), by decide +kernel, by decide +kernel⟩
theorem am_m145 : am_okm 145 := ⟨am_tw_at 5 176 rfl rfl, am_hw_in (z := (1, 1)) (by decide +kernel), (fun h => absurd h (by decide +kernel)), (fun _ => am_hw_in (z := (5, 174)) (by decide +kernel)), (fun _ => am_hw_in (z := (5, 175)) (by decide +kernel)), by decide +kernel, by decide +kernel, (fun h => absurd h (by decide +kernel)), by decide +kernel, by decide +kernel⟩
theorem am_m146 : am_okm 146 := ⟨am_tw_at 5 180 rfl rfl, am_hw_in (z := (1, 1)) (by decide +kernel), (fun h => absurd h (by decide +kernel)), (fun _ => am_hw_in (z := (5, 178)) (by decide +kernel)), (fun _ => am_hw_in (z := (5, 179)) (by decide +kernel)), by decide +kernel, by decide +kernel, (fun h => absurd h (by decide +kernel)), by decide +kernel, by decide +kernel⟩
theorem am_m147 : am_okm 147 := ⟨am_tw_at 5 189 rfl rfl, am_hw_in (z := (1, 1)) (by decide +kernel), (fun h => absurd h (by decide +kernel)), (fun _ => am_hw_in (z := (5, 187)) (by decide +kernel)), (fun _ => am_hw_in (z := (5, 188)) (by decide +kernel)), by decide +kernel, by decide +kernel, (fun h => absurd h (by decide +kernel)), by decide +kernel, by decide +kernel⟩
theorem am_m148 : am_okm 148 := ⟨am_tw_at 5 193 rfl rfl, am_hw_in (z := (1, 1)) (by decide +kernel), (fun h => absurd h (by decide +kernel)), (fun _ => am_hw_in (z := (5, 191)) (by decide +kernel)), (fun _ => am_hw_in (z := (5, 192)) (by decide +kernel)), by decide +kernel, by decide +kernel, (fun h => absurd h (by decide +kernel)), by decide +kernel, by decide +kernel⟩
theorem am_m149 : am_okm 149 := ⟨am_tw_at 5 197 rfl rfl, am_hw_in (z := (1, 1)) (by decide +kernel), (fun h => absurd h (by decide +kernel)), (fun _ => am_hw_in (z := (5, 195)) (by decide +kernel)), (fun _ => am_hw_in (z := (5, 196)) (by decide +kernel)), by decide +kernel, by decide +kernel, (fun h => absurd h (by decide +kernel)), by decide +kernel, by decide +kernel⟩
theorem am_m150 : am_okm 150 := ⟨am_tw_at 6 54 rfl rfl, am_hw_in (z := (1, 16)) (by decide +kernel), (fun h => absurd h (by decide +kernel)), (fun _ => am_hw_in (z := (6, 53)) (by decide +kernel)), (fun h => absurd h (by decide +kernel)), by decide +kernel, by decide +kernel, (fun _ => by decide +kernel), by decide +kernel, by decide +kernel⟩
theorem am_m151 : am_okm 151 := ⟨am_tw_at 7 83 rfl rfl, am_hw_in (z := (1, 16)) (by decide +kernel), (fun h => absurd h (by decide +kernel)), (fun _ => am_hw_in (z := (7, 81)) (by decide +kernel)), (fun _ => am_hw_in (z := (7, 82)) (by decide +kernel)), by decide +kernel, by decide +kernel, (fun h => absurd h (by decide +kernel)), by decide +kernel, by decide +kernel⟩
theorem am_m152 : am_okm 152 := ⟨am_tw_at 7 87 rfl rfl, am_hw_in (z := (1, 16)) (by decide +kernel), (fun h => absurd h (by decide +kernel)), (fun _ => am_hw_in (z := (7, 85)) (by decide +kernel)), (fun _ => am_hw_in (z := (7, 86)) (by decide +kernel)), by decide +kernel, by decide +kernel, (fun h => absurd h (by decide +kernel)), by decide +kernel, by decide +kernel⟩
theorem am_m153 : am_okm 153 := ⟨am_tw_at 7 142 rfl rfl, am_hw_in (z := (1, 16)) (by decide +kernel), (fun _ => am_hw_in (z := (7, 141)) (by decide +kernel)), (fun h => absurd rfl h), (fun h => absurd h (by decide +kernel)), by decide +kernel, by decide +kernel, (fun h => absurd h (by decide +kernel)), by decide +kernel, by decide +kernel⟩
theorem am_m154 : am_okm 154 := ⟨am_tw_at 7 124 rfl rfl, am_hw_in (z := (1, 16)) (by decide +kernel), (fun h => absurd h (by decide +kernel)), (fun _ => am_hw_in (z := (7, 123)) (by decide +kernel)), (fun _ => am_hw_in (z := (0, 60)) (by decide +kernel)), by decide +kernel, by decide +kernel, (fun h => absurd h (by decide +kernel)), by decide +kernel, by decide +kernel⟩
theorem am_m155 : am_okm 155 := ⟨am_tw_at 7 103 rfl rfl, am_hw_in (z := (1, 16)) (by decide +kernel), (fun h => absurd h (by decide +kernel)), (fun _ => am_hw_in (z := (7, 102)) (by decide +kernel)), (fun _ => am_hw_in (z := (0, 55)) (by decide +kernel)), by decide +kernel, by decide +kernel, (fun h => absurd h (by decide +kernel)), by decide +kernel, by decide +kernel⟩
theorem am_m156 : am_okm 156 := ⟨am_tw_at 7 99 rfl rfl, am_hw_in (z := (1, 16)) (by decide +kernel), (fun h => absurd h (by decide +kernel)), (fun _ => am_hw_in (z := (7, 98)) (by decide +kernel)), (fun _ => am_hw_in (z := (0, 54)) (by decide +kernel)), by decide +kernel, by decide +kernel, (fun h => absurd h (by decide +kernel)), by decide +kernel, by decide +kernel⟩
theorem am_m157 : am_okm 157 := ⟨am_tw_at 7 111 rfl rfl, am_hw_in (z := (1, 16)) (by decide +kernel), (fun h => absurd h (by decide +kernel)), (fun _ => am_hw_in (z := (7, 110)) (by decide +kernel)), (fun _ => am_hw_in (z := (0, 57)) (by decide +kernel)), by decide +kernel, by decide +kernel, (fun h => absurd h (by decide +kernel)), by decide +kernel, by decide +kernel⟩
theorem am_m158 : am_okm 158 := ⟨am_tw_at 7 95 rfl rfl, am_hw_in (z := (1, 16)) (by decide +kernel), (fun h => absurd h (by decide +kernel)), (fun _ => am_hw_in (z := (7, 94)) (by decide +kernel)), (fun _ => am_hw_in (z := (0, 53)) (by decide +kernel)), by decide +kernel, by decide +kernel, (fun h => absurd h (by decide +kernel)), by decide +kernel, by decide +kernel⟩
theorem am_m159 : am_okm 159 := ⟨am_tw_at 7 116 rfl rfl, am_hw_in (z := (1, 16)) (by decide +kernel), (fun h => absurd h (by decide +kernel)), (fun _ => am_hw_in (z := (7, 115)) (by decide +kernel)), (fun _ => am_hw_in (z := (0, 58)) (by decide +kernel)), by decide +kernel, by decide +kernel, (fun h => absurd h (by decide +kernel)), by decide +kernel, by decide +kernel⟩
theorem am_m160 : am_okm 160 := ⟨am_tw_at 7 107 rfl rfl, am_hw_in (z := (1, 16)) (by decide +kernel), (fun h => absurd h (by decide +kernel)), (fun _ => am_hw_in (z := (7, 106)) (by decide +kernel)), (fun _ => am_hw_in (z := (0, 56)) (by decide +kernel)), by decide +kernel, by decide +kernel, (fun h => absurd h (by decide +kernel)), by decide +kernel, by decide +kernel⟩
theorem am_m161 : am_okm 161 := ⟨am_tw_at 7 190 rfl rfl, am_hw_in (z := (1, 16)) (by decide +kernel), (fun h => absurd h (by decide +kernel)), (fun _ => am_hw_in (z := (7, 189)) (by decide +kernel)), (fun _ => am_hw_in (z := (0, 75)) (by decide +kernel)), by decide +kernel, by decide +kernel, (fun h => absurd h (by decide +kernel)), by decide +kernel, by decide +kernel⟩
theorem am_m162 : am_okm 162 := ⟨am_tw_at 7 158 rfl rfl, am_hw_in (z := (1, 16)) (by decide +kernel), (fun h => absurd h (by decide +kernel)), (fun _ => am_hw_in (z := (7, 157)) (by decide +kernel)), (fun _ => am_hw_in (z := (0, 67)) (by decide +kernel)), by decide +kernel, by decide +kernel, (fun h => absurd h (by decide +kernel)), by decide +kernel, by decide +kernel⟩
theorem am_m163 : am_okm 163 := ⟨am_tw_at 7 139 rfl rfl, am_hw_in (z := (1, 16)) (by decide +kernel), (fun h => absurd h (by decide +kernel)), (fun _ => am_hw_in (z := (7, 138)) (by decide +kernel)), (fun _ => am_hw_in (z := (0, 63)) (by decide +kernel)), by decide +kernel, by decide +kernel, (fun h => absurd h (by decide +kernel)), by decide +kernel, by decide +kernel⟩
theorem am_m164 : am_okm 164 := ⟨am_tw_at 7 154 rfl rfl, am_hw_in (z := (1, 16)) (by decide +kernel), (fun h => absurd h (by decide +kernel)), (fun _ => am_hw_in (z := (7, 153)) (by decide +kernel)), (fun _ => am_hw_in (z := (0, 66)) (by decide +kernel)), by decide +kernel, by decide +kernel, (fun h => absurd h (by decide +kernel)), by decide +kernel, by decide +kernel⟩
theorem am_m165 : am_okm 165 := ⟨am_tw_at 6 59 rfl rfl, am_hw_in (z := (1, 16)) (by decide +kernel), (fun h => absurd h (by decide +kernel)), (fun _ => am_hw_in (z := (6, 58)) (by decide +kernel)), (fun _ => am_hw_in (z := (0, 48)) (by decide +kernel)), by decide +kernel, by decide +kernel, (fun h => absurd h (by decide +kernel)), by decide +kernel, by decide +kernel⟩
theorem am_m166 : am_okm 166 := ⟨am_tw_at 6 66 rfl rfl, am_hw_in (z := (1, 16)) (by decide +kernel), (fun _ => am_hw_in (z := (6, 65)) (by decide +kernel)), (fun h => absurd rfl h), (fun h => absurd h (by decide +kernel)), by decide +kernel, by decide +kernel, (fun h => absurd h (by decide +kernel)), by decide +kernel, by decide +kernel⟩
theorem am_m167 : am_okm 167 := ⟨am_tw_at 6 63 rfl rfl, am_hw_in (z := (1, 16)) (by decide +kernel), (fun h => absurd h (by decide +kernel)), (fun _ => am_hw_in (z := (6, 62)) (by decide +kernel)), (fun _ => am_hw_in (z := (0, 49)) (by decide +kernel)), by decide +kernel, by decide +kernel, (fun h => absurd h (by decide +kernel)), by decide +kernel, by decide +kernel⟩
theorem am_m168 : am_okm 168 := ⟨am_tw_at 7 135 rfl rfl, am_hw_in (z := (1, 16)) (by decide +kernel), (fun _ => am_hw_in (z := (7, 134)) (by decide +kernel)), (fun h => absurd rfl h), (fun h => absurd h (by decide +kernel)), by decide +kernel, by decide +kernel, (fun h => absurd h (by decide +kernel)), by decide +kernel, by decide +kernel⟩
theorem am_m169 : am_okm 169 := ⟨am_tw_at 7 132 rfl rfl, am_hw_in (z := (1, 16)) (by decide +kernel), (fun h => absurd h (by decide +kernel)), (fun _ => am_hw_in (z := (7, 131)) (by decide +kernel)), (fun _ => am_hw_in (z := (0, 62)) (by decide +kernel)), by decide +kernel, by decide +kernel, (fun h => absurd h (by decide +kernel)), by decide +kernel, by decide +kernel⟩
theorem am_m170 : am_okm 170 := ⟨am_tw_at 7 150 rfl rfl, am_hw_in (z := (1, 16)) (by decide +kernel), (fun h => absurd h (by decide +kernel)), (fun _ => am_hw_in (z := (7, 149)) (by decide +kernel)), (fun _ => am_hw_in (z := (0, 65)) (by decide +kernel)), by decide +kernel, by decide +kernel, (fun h => absurd h (by decide +kernel)), by decide +kernel, by decide +kernel⟩
theorem am_m171 : am_okm 171 := ⟨am_tw_at 7 128 rfl rfl, am_hw_in (z := (1, 16)) (by decide +kernel), (fun h => absurd h (by decide +kernel)), (fun _ => am_hw_in (z := (7, 127)) (by decide +kernel)), (fun _ => am_hw_in (z := (0, 61)) (by decide +kernel)), by decide +kernel, by decide +kernel, (fun h => absurd h (by decide +kernel)), by decide +kernel, by decide +kernel⟩
theorem am_m172 : am_okm 172 := ⟨am_tw_at 7 146 rfl rfl, am_hw_in (z := (1, 16)) (by decide +kernel), (fun h => absurd h (by decide +kernel)), (fun _ => am_hw_in (z := (7, 145)) (by decide +kernel)), (fun _ => am_hw_in (z := (0, 64)) (by decide +kernel)), by decide +kernel, by decide +kernel, (fun h => absurd h (by decide +kernel)), by decide +kernel, by decide +kernel⟩
theorem am_m173 : am_okm 173 := ⟨am_tw_at 7 162 rfl rfl, am_hw_in (z := (1, 16)) (by decide +kernel), (fun h => absurd h (by decide +kernel)), (fun _ => am_hw_in (z := (7, 161)) (by decide +kernel)), (fun _ => am_hw_in (z := (0, 68)) (by decide +kernel)), by decide +kernel, by decide +kernel, (fun h => absurd h (by decide +kernel)), by decide +kernel, by decide +kernel⟩
theorem am_m174 : am_okm 174 := ⟨am_tw_at 7 166 rfl rfl, am_hw_in (z := (1, 16)) (by decide +kernel), (fun h => absurd h (by decide +kernel)), (fun _ => am_hw_in (z := (7, 165)) (by decide +kernel)), (fun _ => am_hw_in (z := (0, 69)) (by decide +kernel)), by decide +kernel, by decide +kernel, (fun h => absurd h (by decide +kernel)), by decide +kernel, by decide +kernel⟩
theorem am_m175 : am_okm 175 := ⟨am_tw_at 7 170 rfl rfl, am_hw_in (z := (1, 16)) (by decide +kernel), (fun h => absurd h (by decide +kernel)), (fun _ => am_hw_in (z := (7, 169)) (by decide +kernel)), (fun _ => am_hw_in (z := (0, 70)) (by decide +kernel)), by decide +kernel, by decide +kernel, (fun h => absurd h (by decide +kernel)), by decide +kernel, by decide +kernel⟩
theorem am_m176 : am_okm 176 := ⟨am_tw_at 7 174 rfl rfl, am_hw_in (z := (1, 16)) (by decide +kernel), (fun h => absurd h (by decide +kernel)), (fun _ => am_hw_in (z := (7, 173)) (by decide +kernel)), (fun _ => am_hw_in (z := (0, 71)) (by decide +kernel)), by decide +kernel, by decide +kernel, (fun h => absurd h (by decide +kernel)), by decide +kernel, by decide +kernel⟩
theorem am_m177 : am_okm 177 := ⟨am_tw_at 7 120 rfl rfl, am_hw_in (z := (1, 16)) (by decide +kernel), (fun h => absurd h (by decide +kernel)), (fun _ => am_hw_in (z := (7, 119)) (by decide +kernel)), (fun _ => am_hw_in (z := (0, 59)) (by decide +kernel)), by decide +kernel, by decide +kernel, (fun h => absurd h (by decide +kernel)), by decide +kernel, by decide +kernel⟩
theorem am_m178 : am_okm 178 := ⟨am_tw_at 7 91 rfl rfl, am_hw_in (z := (1, 16)) (by decide +kernel), (fun h => absurd h (by decide +kernel)), (fun _ => am_hw_in (z := (7, 89)) (by decide +kernel)), (fun _ => am_hw_in (z := (7, 90)) (by decide +kernel)), by decide +kernel, by decide +kernel, (fun h => absurd h (by decide +kernel)), by decide +kernel, by decide +kernel⟩
theorem am_m179 : am_okm 179 := ⟨am_tw_at 7 221 rfl rfl, am_hw_in (z := (1, 16)) (by decide +kernel), (fun h => absurd h (by decide +kernel)), (fun _ => am_hw_in (z := (7, 219)) (by decide +kernel)), (fun _ => am_hw_in (z := (7, 220)) (by decide +kernel)), by decide +kernel, by decide +kernel, (fun h => absurd h (by decide +kernel)), by decide +kernel, by decide +kernel⟩
theorem am_m180 : am_okm 180 := ⟨am_tw_at 7 225 rfl rfl, am_hw_in (z := (1, 16)) (by decide +kernel), (fun h => absurd h (by decide +kernel)), (fun _ => am_hw_in (z := (7, 223)) (by decide +kernel)), (fun _ => am_hw_in (z := (7, 224)) (by decide +kernel)), by decide +kernel, by decide +kernel, (fun h => absurd h (by decide +kernel)), by decide +kernel, by decide +kernel⟩
theorem am_m181 : am_okm 181 := ⟨am_tw_at 7 213 rfl rfl, am_hw_in (z := (1, 16)) (by decide +kernel), (fun _ => am_hw_in (z := (7, 212)) (by decide +kernel)), (fun h => absurd rfl h), (fun h => absurd h (by decide +kernel)), by decide +kernel, by decide +kernel, (fun h => absurd h (by decide +kernel)), by decide +kernel, by decide +kernel⟩
theorem am_m182 : am_okm 182 := ⟨am_tw_at 7 202 rfl rfl, am_hw_in (z := (1, 16)) (by decide +kernel), (fun h => absurd h (by decide +kernel)), (fun _ => am_hw_in (z := (7, 201)) (by decide +kernel)), (fun _ => am_hw_in (z := (0, 78)) (by decide +kernel)), by decide +kernel, by decide +kernel, (fun h => absurd h (by decide +kernel)), by decide +kernel, by decide +kernel⟩
theorem am_m183 : am_okm 183 := ⟨am_tw_at 7 217 rfl rfl, am_hw_in (z := (1, 16)) (by decide +kernel), (fun h => absurd h (by decide +kernel)), (fun _ => am_hw_in (z := (7, 216)) (by decide +kernel)), (fun _ => am_hw_in (z := (0, 81)) (by decide +kernel)), by decide +kernel, by decide +kernel, (fun h => absurd h (by decide +kernel)), by decide +kernel, by decide +kernel⟩
theorem am_m184 : am_okm 184 := ⟨am_tw_at 7 210 rfl rfl, am_hw_in (z := (1, 16)) (by decide +kernel), (fun h => absurd h (by decide +kernel)), (fun _ => am_hw_in (z := (7, 209)) (by decide +kernel)), (fun _ => am_hw_in (z := (0, 80)) (by decide +kernel)), by decide +kernel, by decide +kernel, (fun h => absurd h (by decide +kernel)), by decide +kernel, by decide +kernel⟩
theorem am_m185 : am_okm 185 := ⟨am_tw_at 7 194 rfl rfl, am_hw_in (z := (1, 16)) (by decide +kernel), (fun h => absurd h (by decide +kernel)), (fun _ => am_hw_in (z := (7, 193)) (by decide +kernel)), (fun _ => am_hw_in (z := (0, 76)) (by decide +kernel)), by decide +kernel, by decide +kernel, (fun h => absurd h (by decide +kernel)), by decide +kernel, by decide +kernel⟩
theorem am_m186 : am_okm 186 := ⟨am_tw_at 7 186 rfl rfl, am_hw_in (z := (1, 16)) (by decide +kernel), (fun h => absurd h (by decide +kernel)), (fun _ => am_hw_in (z := (7, 185)) (by decide +kernel)), (fun _ => am_hw_in (z := (0, 74)) (by decide +kernel)), by decide +kernel, by decide +kernel, (fun h => absurd h (by decide +kernel)), by decide +kernel, by decide +kernel⟩
theorem am_m187 : am_okm 187 := ⟨am_tw_at 7 198 rfl rfl, am_hw_in (z := (1, 16)) (by decide +kernel), (fun h => absurd h (by decide +kernel)), (fun _ => am_hw_in (z := (7, 197)) (by decide +kernel)), (fun _ => am_hw_in (z := (0, 77)) (by decide +kernel)), by decide +kernel, by decide +kernel, (fun h => absurd h (by decide +kernel)), by decide +kernel, by decide +kernel⟩
theorem am_m188 : am_okm 188 := ⟨am_tw_at 7 182 rfl rfl, am_hw_in (z := (1, 16)) (by decide +kernel), (fun h => absurd h (by decide +kernel)), (fun _ => am_hw_in (z := (7, 181)) (by decide +kernel)), (fun _ => am_hw_in (z := (0, 73)) (by decide +kernel)), by decide +kernel, by decide +kernel, (fun h => absurd h (by decide +kernel)), by decide +kernel, by decide +kernel⟩
theorem am_m189 : am_okm 189 := ⟨am_tw_at 7 206 rfl rfl, am_hw_in (z := (1, 16)) (by decide +kernel), (fun h => absurd h (by decide +kernel)), (fun _ => am_hw_in (z := (7, 205)) (by decide +kernel)), (fun _ => am_hw_in (z := (0, 79)) (by decide +kernel)), by decide +kernel, by decide +kernel, (fun h => absurd h (by decide +kernel)), by decide +kernel, by decide +kernel⟩
theorem am_m190 : am_okm 190 := ⟨am_tw_at 7 178 rfl rfl, am_hw_in (z := (1, 16)) (by decide +kernel), (fun h => absurd h (by decide +kernel)), (fun _ => am_hw_in (z := (7, 177)) (by decide +kernel)), (fun _ => am_hw_in (z := (0, 72)) (by decide +kernel)), by decide +kernel, by decide +kernel, (fun h => absurd h (by decide +kernel)), by decide +kernel, by decide +kernel⟩
theorem am_m191 : am_okm 191 := ⟨am_tw_at 8 68 rfl rfl, am_hw_in (z := (1, 16)) (by decide +kernel), (fun h => absurd h (by decide +kernel)), (fun _ => am_hw_in (z := (8, 67)) (by decide +kernel)), (fun _ => am_hw_in (z := (0, 94)) (by decide +kernel)), by decide +kernel, by decide +kernel, (fun h => absurd h (by decide +kernel)), by decide +kernel, by decide +kernel⟩
theorem am_m192 : am_okm 192 := ⟨am_tw_at 8 77 rfl rfl, am_hw_in (z := (1, 16)) (by decide +kernel), (fun _ => am_hw_in (z := (8, 76)) (by decide +kernel)), (fun h => absurd rfl h), (fun h => absurd h (by decide +kernel)), by decide +kernel, by decide +kernel, (fun h => absurd h (by decide +kernel)), by decide +kernel, by decide +kernel⟩
theorem am_m193 : am_okm 193 := ⟨am_tw_at 8 74 rfl rfl, am_hw_in (z := (1, 16)) (by decide +kernel), (fun h => absurd h (by decide +kernel)), (fun _ => am_hw_in (z := (8, 73)) (by decide +kernel)), (fun _ => am_hw_in (z := (0, 95)) (by decide +kernel)), by decide +kernel, by decide +kernel, (fun h => absurd h (by decide +kernel)), by decide +kernel, by decide +kernel⟩
theorem am_m194 : am_okm 194 := ⟨am_tw_at 8 64 rfl rfl, am_hw_in (z := (1, 16)) (by decide +kernel), (fun h => absurd h (by decide +kernel)), (fun _ => am_hw_in (z := (8, 63)) (by decide +kernel)), (fun _ => am_hw_in (z := (0, 93)) (by decide +kernel)), by decide +kernel, by decide +kernel, (fun h => absurd h (by decide +kernel)), by decide +kernel, by decide +kernel⟩
theorem am_m195 : am_okm 195 := ⟨am_tw_at 6 70 rfl rfl, am_hw_in (z := (1, 16)) (by decide +kernel), (fun h => absurd h (by decide +kernel)), (fun _ => am_hw_in (z := (6, 69)) (by decide +kernel)), (fun _ => am_hw_in (z := (0, 50)) (by decide +kernel)), by decide +kernel, by decide +kernel, (fun h => absurd h (by decide +kernel)), by decide +kernel, by decide +kernel⟩
theorem am_m196 : am_okm 196 := ⟨am_tw_at 6 74 rfl rfl, am_hw_in (z := (1, 16)) (by decide +kernel), (fun h => absurd h (by decide +kernel)), (fun _ => am_hw_in (z := (6, 73)) (by decide +kernel)), (fun _ => am_hw_in (z := (0, 51)) (by decide +kernel)), by decide +kernel, by decide +kernel, (fun h => absurd h (by decide +kernel)), by decide +kernel, by decide +kernel⟩
theorem am_m197 : am_okm 197 := ⟨am_tw_at 6 78 rfl rfl, am_hw_in (z := (1, 16)) (by decide +kernel), (fun h => absurd h (by decide +kernel)), (fun _ => am_hw_in (z := (6, 77)) (by decide +kernel)), (fun _ => am_hw_in (z := (0, 52)) (by decide +kernel)), by decide +kernel, by decide +kernel, (fun h => absurd h (by decide +kernel)), by decide +kernel, by decide +kernel⟩
theorem am_m198 : am_okm 198 := ⟨am_tw_at 8 149 rfl rfl, am_hw_in (z := (1, 16)) (by decide +kernel), (fun h => absurd h (by decide +kernel)), (fun _ => am_hw_in (z := (8, 148)) (by decide +kernel)), (fun _ => am_hw_in (z := (0, 105)) (by decide +kernel)), by decide +kernel, by decide +kernel, (fun h => absurd h (by decide +kernel)), by decide +kernel, by decide +kernel⟩
theorem am_m199 : am_okm 199 := ⟨am_tw_at 7 233 rfl rfl, am_hw_in (z := (1, 16)) (by decide +kernel), (fun h => absurd h (by decide +kernel)), (fun _ => am_hw_in (z := (7, 232)) (by decide +kernel)), (fun _ => am_hw_in (z := (0, 82)) (by decide +kernel)), by decide +kernel, by decide +kernel, (fun h => absurd h (by decide +kernel)), by decide +kernel, by decide +kernel⟩
theorem am_m200 : am_okm 200 := ⟨am_tw_at 8 23 rfl rfl, am_hw_in (z := (1, 16)) (by decide +kernel), (fun h => absurd h (by decide +kernel)), (fun _ => am_hw_in (z := (8, 22)) (by decide +kernel)), (fun _ => am_hw_in (z := (0, 86)) (by decide +kernel)), by decide +kernel, by decide +kernel, (fun h => absurd h (by decide +kernel)), by decide +kernel, by decide +kernel⟩
theorem am_m201 : am_okm 201 := ⟨am_tw_at 8 0 rfl rfl, am_hw_in (z := (1, 16)) (by decide +kernel), (fun _ => am_hw_in (z := (7, 239)) (by decide +kernel)), (fun h => absurd rfl h), (fun h => absurd h (by decide +kernel)), by decide +kernel, by decide +kernel, (fun h => absurd h (by decide +kernel)), by decide +kernel, by decide +kernel⟩
theorem am_m202 : am_okm 202 := ⟨am_tw_at 8 15 rfl rfl, am_hw_in (z := (1, 16)) (by decide +kernel), (fun _ => am_hw_in (z := (8, 14)) (by decide +kernel)), (fun h => absurd rfl h), (fun h => absurd h (by decide +kernel)), by decide +kernel, by decide +kernel, (fun h => absurd h (by decide +kernel)), by decide +kernel, by decide +kernel⟩
theorem am_m203 : am_okm 203 := ⟨am_tw_at 8 101 rfl rfl, am_hw_in (z := (1, 16)) (by decide +kernel), (fun _ => am_hw_in (z := (8, 100)) (by decide +kernel)), (fun h => absurd rfl h), (fun h => absurd h (by decide +kernel)), by decide +kernel, by decide +kernel, (fun h => absurd h (by decide +kernel)), by decide +kernel, by decide +kernel⟩
theorem am_m204 : am_okm 204 := ⟨am_tw_at 8 12 rfl rfl, am_hw_in (z := (1, 16)) (by decide +kernel), (fun h => absurd h (by decide +kernel)), (fun _ => am_hw_in (z := (8, 11)) (by decide +kernel)), (fun _ => am_hw_in (z := (0, 85)) (by decide +kernel)), by decide +kernel, by decide +kernel, (fun h => absurd h (by decide +kernel)), by decide +kernel, by decide +kernel⟩
theorem am_m205 : am_okm 205 := ⟨am_tw_at 8 8 rfl rfl, am_hw_in (z := (1, 16)) (by decide +kernel), (fun h => absurd h (by decide +kernel)), (fun _ => am_hw_in (z := (8, 7)) (by decide +kernel)), (fun _ => am_hw_in (z := (0, 84)) (by decide +kernel)), by decide +kernel, by decide +kernel, (fun h => absurd h (by decide +kernel)), by decide +kernel, by decide +kernel⟩
theorem am_m206 : am_okm 206 := ⟨am_tw_at 8 52 rfl rfl, am_hw_in (z := (1, 16)) (by decide +kernel), (fun h => absurd h (by decide +kernel)), (fun _ => am_hw_in (z := (8, 51)) (by decide +kernel)), (fun _ => am_hw_in (z := (0, 90)) (by decide +kernel)), by decide +kernel, by decide +kernel, (fun h => absurd h (by decide +kernel)), by decide +kernel, by decide +kernel⟩
theorem am_m207 : am_okm 207 := ⟨am_tw_at 8 48 rfl rfl, am_hw_in (z := (1, 16)) (by decide +kernel), (fun h => absurd h (by decide +kernel)), (fun _ => am_hw_in (z := (8, 47)) (by decide +kernel)), (fun _ => am_hw_in (z := (0, 89)) (by decide +kernel)), by decide +kernel, by decide +kernel, (fun h => absurd h (by decide +kernel)), by decide +kernel, by decide +kernel⟩
theorem am_m208 : am_okm 208 := ⟨am_tw_at 8 60 rfl rfl, am_hw_in (z := (1, 16)) (by decide +kernel), (fun h => absurd h (by decide +kernel)), (fun _ => am_hw_in (z := (8, 59)) (by decide +kernel)), (fun _ => am_hw_in (z := (0, 92)) (by decide +kernel)), by decide +kernel, by decide +kernel, (fun h => absurd h (by decide +kernel)), by decide +kernel, by decide +kernel⟩
theorem am_m209 : am_okm 209 := ⟨am_tw_at 8 56 rfl rfl, am_hw_in (z := (1, 16)) (by decide +kernel), (fun h => absurd h (by decide +kernel)), (fun _ => am_hw_in (z := (8, 55)) (by decide +kernel)), (fun _ => am_hw_in (z := (0, 91)) (by decide +kernel)), by decide +kernel, by decide +kernel, (fun h => absurd h (by decide +kernel)), by decide +kernel, by decide +kernel⟩
theorem am_m210 : am_okm 210 := ⟨am_tw_at 8 44 rfl rfl, am_hw_in (z := (1, 16)) (by decide +kernel), (fun h => absurd h (by decide +kernel)), (fun _ => am_hw_in (z := (8, 43)) (by decide +kernel)), (fun _ => am_hw_in (z := (0, 88)) (by decide +kernel)), by decide +kernel, by decide +kernel, (fun h => absurd h (by decide +kernel)), by decide +kernel, by decide +kernel⟩
theorem am_m211 : am_okm 211 := ⟨am_tw_at 8 141 rfl rfl, am_hw_in (z := (1, 16)) (by decide +kernel), (fun h => absurd h (by decide +kernel)), (fun _ => am_hw_in (z := (8, 140)) (by decide +kernel)), (fun _ => am_hw_in (z := (0, 104)) (by decide +kernel)), by decide +kernel, by decide +kernel, (fun h => absurd h (by decide +kernel)), by decide +kernel, by decide +kernel⟩
theorem am_m212 : am_okm 212 := ⟨am_tw_at 8 129 rfl rfl, am_hw_in (z := (1, 16)) (by decide +kernel), (fun h => absurd h (by decide +kernel)), (fun _ => am_hw_in (z := (8, 128)) (by decide +kernel)), (fun _ => am_hw_in (z := (0, 102)) (by decide +kernel)), by decide +kernel, by decide +kernel, (fun h => absurd h (by decide +kernel)), by decide +kernel, by decide +kernel⟩
theorem am_m213 : am_okm 213 := ⟨am_tw_at 8 125 rfl rfl, am_hw_in (z := (1, 16)) (by decide +kernel), (fun h => absurd h (by decide +kernel)), (fun _ => am_hw_in (z := (8, 124)) (by decide +kernel)), (fun _ => am_hw_in (z := (0, 101)) (by decide +kernel)), by decide +kernel, by decide +kernel, (fun h => absurd h (by decide +kernel)), by decide +kernel, by decide +kernel⟩
theorem am_m214 : am_okm 214 := ⟨am_tw_at 8 98 rfl rfl, am_hw_in (z := (1, 16)) (by decide +kernel), (fun h => absurd h (by decide +kernel)), (fun _ => am_hw_in (z := (8, 97)) (by decide +kernel)), (fun _ => am_hw_in (z := (0, 98)) (by decide +kernel)), by decide +kernel, by decide +kernel, (fun h => absurd h (by decide +kernel)), by decide +kernel, by decide +kernel⟩
theorem am_m215 : am_okm 215 := ⟨am_tw_at 8 121 rfl rfl, am_hw_in (z := (1, 16)) (by decide +kernel), (fun h => absurd h (by decide +kernel)), (fun _ => am_hw_in (z := (8, 120)) (by decide +kernel)), (fun _ => am_hw_in (z := (0, 100)) (by decide +kernel)), by decide +kernel, by decide +kernel, (fun h => absurd h (by decide +kernel)), by decide +kernel, by decide +kernel⟩
theorem am_m216 : am_okm 216 := ⟨am_tw_at 8 137 rfl rfl, am_hw_in (z := (1, 16)) (by decide +kernel), (fun h => absurd h (by decide +kernel)), (fun _ => am_hw_in (z := (8, 136)) (by decide +kernel)), (fun _ => am_hw_in (z := (0, 103)) (by decide +kernel)), by decide +kernel, by decide +kernel, (fun h => absurd h (by decide +kernel)), by decide +kernel, by decide +kernel⟩
theorem am_m217 : am_okm 217 := ⟨am_tw_at 8 117 rfl rfl, am_hw_in (z := (1, 16)) (by decide +kernel), (fun h => absurd h (by decide +kernel)), (fun _ => am_hw_in (z := (8, 116)) (by decide +kernel)), (fun _ => am_hw_in (z := (0, 99)) (by decide +kernel)), by decide +kernel, by decide +kernel, (fun h => absurd h (by decide +kernel)), by decide +kernel, by decide +kernel⟩
theorem am_m218 : am_okm 218 := ⟨am_tw_at 8 153 rfl rfl, am_hw_in (z := (1, 16)) (by decide +kernel), (fun h => absurd h (by decide +kernel)), (fun _ => am_hw_in (z := (8, 152)) (by decide +kernel)), (fun _ => am_hw_in (z := (0, 106)) (by decide +kernel)), by decide +kernel, by decide +kernel, (fun h => absurd h (by decide +kernel)), by decide +kernel, by decide +kernel⟩
theorem am_m219 : am_okm 219 := ⟨am_tw_at 8 157 rfl rfl, am_hw_in (z := (1, 16)) (by decide +kernel), (fun h => absurd h (by decide +kernel)), (fun _ => am_hw_in (z := (8, 156)) (by decide +kernel)), (fun _ => am_hw_in (z := (0, 107)) (by decide +kernel)), by decide +kernel, by decide +kernel, (fun h => absurd h (by decide +kernel)), by decide +kernel, by decide +kernel⟩
theorem am_m220 : am_okm 220 := ⟨am_tw_at 8 36 rfl rfl, am_hw_in (z := (1, 16)) (by decide +kernel), (fun h => absurd h (by decide +kernel)), (fun _ => am_hw_in (z := (8, 35)) (by decide +kernel)), (fun _ => am_hw_in (z := (0, 87)) (by decide +kernel)), by decide +kernel, by decide +kernel, (fun h => absurd h (by decide +kernel)), by decide +kernel, by decide +kernel⟩
theorem am_m221 : am_okm 221 := ⟨am_tw_at 7 237 rfl rfl, am_hw_in (z := (1, 16)) (by decide +kernel), (fun h => absurd h (by decide +kernel)), (fun _ => am_hw_in (z := (7, 236)) (by decide +kernel)), (fun _ => am_hw_in (z := (0, 83)) (by decide +kernel)), by decide +kernel, by decide +kernel, (fun h => absurd h (by decide +kernel)), by decide +kernel, by decide +kernel⟩
theorem am_m222 : am_okm 222 := ⟨am_tw_at 7 229 rfl rfl, am_hw_in (z := (1, 16)) (by decide +kernel), (fun h => absurd h (by decide +kernel)), (fun _ => am_hw_in (z := (7, 227)) (by decide +kernel)), (fun _ => am_hw_in (z := (7, 228)) (by decide +kernel)), by decide +kernel, by decide +kernel, (fun h => absurd h (by decide +kernel)), by decide +kernel, by decide +kernel⟩
theorem am_m223 : am_okm 223 := ⟨am_tw_at 8 4 rfl rfl, am_hw_in (z := (1, 16)) (by decide +kernel), (fun h => absurd h (by decide +kernel)), (fun _ => am_hw_in (z := (8, 2)) (by decide +kernel)), (fun _ => am_hw_in (z := (8, 3)) (by decide +kernel)), by decide +kernel, by decide +kernel, (fun h => absurd h (by decide +kernel)), by decide +kernel, by decide +kernel⟩
theorem am_m224 : am_okm 224 := ⟨am_tw_at 8 19 rfl rfl, am_hw_in (z := (1, 16)) (by decide +kernel), (fun h => absurd h (by decide +kernel)), (fun _ => am_hw_in (z := (8, 17)) (by decide +kernel)), (fun _ => am_hw_in (z := (8, 18)) (by decide +kernel)), by decide +kernel, by decide +kernel, (fun h => absurd h (by decide +kernel)), by decide +kernel, by decide +kernel⟩
theorem am_m225 : am_okm 225 := ⟨am_tw_at 8 28 rfl rfl, am_hw_in (z := (1, 16)) (by decide +kernel), (fun h => absurd h (by decide +kernel)), (fun _ => am_hw_in (z := (8, 26)) (by decide +kernel)), (fun _ => am_hw_in (z := (8, 27)) (by decide +kernel)), by decide +kernel, by decide +kernel, (fun h => absurd h (by decide +kernel)), by decide +kernel, by decide +kernel⟩
theorem am_m226 : am_okm 226 := ⟨am_tw_at 8 32 rfl rfl, am_hw_in (z := (1, 16)) (by decide +kernel), (fun h => absurd h (by decide +kernel)), (fun _ => am_hw_in (z := (8, 30)) (by decide +kernel)), (fun _ => am_hw_in (z := (8, 31)) (by decide +kernel)), by decide +kernel, by decide +kernel, (fun h => absurd h (by decide +kernel)), by decide +kernel, by decide +kernel⟩
theorem am_m227 : am_okm 227 := ⟨am_tw_at 8 40 rfl rfl, am_hw_in (z := (1, 16)) (by decide +kernel), (fun h => absurd h (by decide +kernel)), (fun _ => am_hw_in (z := (8, 38)) (by decide +kernel)), (fun _ => am_hw_in (z := (8, 39)) (by decide +kernel)), by decide +kernel, by decide +kernel, (fun h => absurd h (by decide +kernel)), by decide +kernel, by decide +kernel⟩
theorem am_m228 : am_okm 228 := ⟨am_tw_at 8 81 rfl rfl, am_hw_in (z := (1, 16)) (by decide +kernel), (fun h => absurd h (by decide +kernel)), (fun _ => am_hw_in (z := (8, 79)) (by decide +kernel)), (fun _ => am_hw_in (z := (8, 80)) (by decide +kernel)), by decide +kernel, by decide +kernel, (fun h => absurd h (by decide +kernel)), by decide +kernel, by decide +kernel⟩
theorem am_m229 : am_okm 229 := ⟨am_tw_at 8 86 rfl rfl, am_hw_in (z := (1, 16)) (by decide +kernel), (fun h => absurd h (by decide +kernel)), (fun _ => am_hw_in (z := (8, 84)) (by decide +kernel)), (fun _ => am_hw_in (z := (8, 85)) (by decide +kernel)), by decide +kernel, by decide +kernel, (fun h => absurd h (by decide +kernel)), by decide +kernel, by decide +kernel⟩
theorem am_m230 : am_okm 230 := ⟨am_tw_at 8 105 rfl rfl, am_hw_in (z := (1, 16)) (by decide +kernel), (fun h => absurd h (by decide +kernel)), (fun _ => am_hw_in (z := (8, 103)) (by decide +kernel)), (fun _ => am_hw_in (z := (8, 104)) (by decide +kernel)), by decide +kernel, by decide +kernel, (fun h => absurd h (by decide +kernel)), by decide +kernel, by decide +kernel⟩
theorem am_m231 : am_okm 231 := ⟨am_tw_at 8 109 rfl rfl, am_hw_in (z := (1, 16)) (by decide +kernel), (fun h => absurd h (by decide +kernel)), (fun _ => am_hw_in (z := (8, 107)) (by decide +kernel)), (fun _ => am_hw_in (z := (8, 108)) (by decide +kernel)), by decide +kernel, by decide +kernel, (fun h => absurd h (by decide +kernel)), by decide +kernel, by decide +kernel⟩
theorem am_m232 : am_okm 232 := ⟨am_tw_at 8 113 rfl rfl, am_hw_in (z := (1, 16)) (by decide +kernel), (fun h => absurd h (by decide +kernel)), (fun _ => am_hw_in (z := (8, 111)) (by decide +kernel)), (fun _ => am_hw_in (z := (8, 112)) (by decide +kernel)), by decide +kernel, by decide +kernel, (fun h => absurd h (by decide +kernel)), by decide +kernel, by decide +kernel⟩
theorem am_m233 : am_okm 233 := ⟨am_tw_at 8 145 rfl rfl, am_hw_in (z := (1, 16)) (by decide +kernel), (fun h => absurd h (by decide +kernel)), (fun _ => am_hw_in (z := (8, 143)) (by decide +kernel)), (fun _ => am_hw_in (z := (8, 144)) (by decide +kernel)), by decide +kernel, by decide +kernel, (fun h => absurd h (by decide +kernel)), by decide +kernel, by decide +kernel⟩
theorem am_m234 : am_okm 234 := ⟨am_tw_at 8 165 rfl rfl, am_hw_in (z := (1, 16)) (by decide +kernel), (fun h => absurd h (by decide +kernel)), (fun _ => am_hw_in (z := (8, 164)) (by decide +kernel)), (fun _ => am_hw_in (z := (0, 108)) (by decide +kernel)), by decide +kernel, by decide +kernel, (fun h => absurd h (by decide +kernel)), by decide +kernel, by decide +kernel⟩
theorem am_m235 : am_okm 235 := ⟨am_tw_at 8 161 rfl rfl, am_hw_in (z := (1, 16)) (by decide +kernel), (fun h => absurd h (by decide +kernel)), (fun _ => am_hw_in (z := (8, 159)) (by decide +kernel)), (fun _ => am_hw_in (z := (8, 160)) (by decide +kernel)), by decide +kernel, by decide +kernel, (fun h => absurd h (by decide +kernel)), by decide +kernel, by decide +kernel⟩
theorem am_m236 : am_okm 236 := ⟨am_tw_at 8 169 rfl rfl, am_hw_in (z := (1, 16)) (by decide +kernel), (fun h => absurd h (by decide +kernel)), (fun _ => am_hw_in (z := (8, 167)) (by decide +kernel)), (fun _ => am_hw_in (z := (8, 168)) (by decide +kernel)), by decide +kernel, by decide +kernel, (fun h => absurd h (by decide +kernel)), by decide +kernel, by decide +kernel⟩
theorem am_m237 : am_okm 237 := ⟨am_tw_at 8 173 rfl rfl, am_hw_in (z := (1, 16)) (by decide +kernel), (fun h => absurd h (by decide +kernel)), (fun _ => am_hw_in (z := (8, 171)) (by decide +kernel)), (fun _ => am_hw_in (z := (8, 172)) (by decide +kernel)), by decide +kernel, by decide +kernel, (fun h => absurd h (by decide +kernel)), by decide +kernel, by decide +kernel⟩
theorem am_m238 : am_okm 238 := ⟨am_tw_at 8 181 rfl rfl, am_hw_in (z := (1, 16)) (by decide +kernel), (fun h => absurd h (by decide +kernel)), (fun _ => am_hw_in (z := (8, 180)) (by decide +kernel)), (fun _ => am_hw_in (z := (0, 109)) (by decide +kernel)), by decide +kernel, by decide +kernel, (fun h => absurd h (by decide +kernel)), by decide +kernel, by decide +kernel⟩
theorem am_m239 : am_okm 239 := ⟨am_tw_at 8 177 rfl rfl, am_hw_in (z := (1, 16)) (by decide +kernel), (fun h => absurd h (by decide +kernel)), (fun _ => am_hw_in (z := (8, 175)) (by decide +kernel)), (fun _ => am_hw_in (z := (8, 176)) (by decide +kernel)), by decide +kernel, by decide +kernel, (fun h => absurd h (by decide +kernel)), by decide +kernel, by decide +kernel⟩
theorem am_m240 : am_okm 240 := ⟨am_tw_at 8 185 rfl rfl, am_hw_in (z := (1, 16)) (by decide +kernel), (fun h => absurd h (by decide +kernel)), (fun _ => am_hw_in (z := (8, 183)) (by decide +kernel)), (fun _ => am_hw_in (z := (8, 184)) (by decide +kernel)), by decide +kernel, by decide +kernel, (fun h => absurd h (by decide +kernel)), by decide +kernel, by decide +kernel⟩
theorem am_m241 : am_okm 241 := ⟨am_tw_at 8 189 rfl rfl, am_hw_in (z := (1, 16)) (by decide +kernel), (fun h => absurd h (by decide +kernel)), (fun _ => am_hw_in (z := (8, 187)) (by decide +kernel)), (fun _ => am_hw_in (z := (8, 188)) (by decide +kernel)), by decide +kernel, by decide +kernel, (fun h => absurd h (by decide +kernel)), by decide +kernel, by decide +kernel⟩
theorem am_m242 : am_okm 242 := ⟨am_tw_at 8 197 rfl rfl, am_hw_in (z := (1, 16)) (by decide +kernel), (fun h => absurd h (by decide +kernel)), (fun _ => am_hw_in (z := (8, 196)) (by decide +kernel)), (fun _ => am_hw_in (z := (0, 110)) (by decide +kernel)), by decide +kernel, by decide +kernel, (fun h => absurd h (by decide +kernel)), by decide +kernel, by decide +kernel⟩
theorem am_m243 : am_okm 243 := ⟨am_tw_at 8 193 rfl rfl, am_hw_in (z := (1, 16)) (by decide +kernel), (fun h => absurd h (by decide +kernel)), (fun _ => am_hw_in (z := (8, 191)) (by decide +kernel)), (fun _ => am_hw_in (z := (8, 192)) (by decide +kernel)), by decide +kernel, by decide +kernel, (fun h => absurd h (by decide +kernel)), by decide +kernel, by decide +kernel⟩
theorem am_m244 : am_okm 244 := ⟨am_tw_at 8 201 rfl rfl, am_hw_in (z := (1, 16)) (by decide +kernel), (fun h => absurd h (by decide +kernel)), (fun _ => am_hw_in (z := (8, 199)) (by decide +kernel)), (fun _ => am_hw_in (z := (8, 200)) (by decide +kernel)), by decide +kernel, by decide +kernel, (fun h => absurd h (by decide +kernel)), by decide +kernel, by decide +kernel⟩
theorem am_m245 : am_okm 245 := ⟨am_tw_at 8 205 rfl rfl, am_hw_in (z := (1, 16)) (by decide +kernel), (fun h => absurd h (by decide +kernel)), (fun _ => am_hw_in (z := (8, 203)) (by decide +kernel)), (fun _ => am_hw_in (z := (8, 204)) (by decide +kernel)), by decide +kernel, by decide +kernel, (fun h => absurd h (by decide +kernel)), by decide +kernel, by decide +kernel⟩
theorem am_m246 : am_okm 246 := ⟨am_tw_at 8 209 rfl rfl, am_hw_in (z := (1, 16)) (by decide +kernel), (fun h => absurd h (by decide +kernel)), (fun _ => am_hw_in (z := (8, 207)) (by decide +kernel)), (fun _ => am_hw_in (z := (8, 208)) (by decide +kernel)), by decide +kernel, by decide +kernel, (fun h => absurd h (by decide +kernel)), by decide +kernel, by decide +kernel⟩
theorem am_m247 : am_okm 247 := ⟨am_tw_at 8 213 rfl rfl, am_hw_in (z := (1, 16)) (by decide +kernel), (fun h => absurd h (by decide +kernel)), (fun _ => am_hw_in (z := (8, 211)) (by decide +kernel)), (fun _ => am_hw_in (z := (8, 212)) (by decide +kernel)), by decide +kernel, by decide +kernel, (fun h => absurd h (by decide +kernel)), by decide +kernel, by decide +kernel⟩
theorem am_m248 : am_okm 248 := ⟨am_tw_at 8 225 rfl rfl, am_hw_in (z := (1, 16)) (by decide +kernel), (fun h => absurd h (by decide +kernel)), (fun _ => am_hw_in (z := (8, 224)) (by decide +kernel)), (fun _ => am_hw_in (z := (0, 112)) (by decide +kernel)), by decide +kernel, by decide +kernel, (fun h => absurd h (by decide +kernel)), by decide +kernel, by decide +kernel⟩
theorem am_m249 : am_okm 249 := ⟨am_tw_at 8 221 rfl rfl, am_hw_in (z := (1, 16)) (by decide +kernel), (fun h => absurd h (by decide +kernel)), (fun _ => am_hw_in (z := (8, 220)) (by decide +kernel)), (fun _ => am_hw_in (z := (0, 111)) (by decide +kernel)), by decide +kernel, by decide +kernel, (fun h => absurd h (by decide +kernel)), by decide +kernel, by decide +kernel⟩
theorem am_m250 : am_okm 250 := ⟨am_tw_at 8 217 rfl rfl, am_hw_in (z := (1, 16)) (by decide +kernel), (fun h => absurd h (by decide +kernel)), (fun _ => am_hw_in (z := (8, 215)) (by decide +kernel)), (fun _ => am_hw_in (z := (8, 216)) (by decide +kernel)), by decide +kernel, by decide +kernel, (fun h => absurd h (by decide +kernel)), by decide +kernel, by decide +kernel⟩
theorem am_m251 : am_okm 251 := ⟨am_tw_at 8 229 rfl rfl, am_hw_in (z := (1, 16)) (by decide +kernel), (fun h => absurd h (by decide +kernel)), (fun _ => am_hw_in (z := (8, 227)) (by decide +kernel)), (fun _ => am_hw_in (z := (8, 228)) (by decide +kernel)), by decide +kernel, by decide +kernel, (fun h => absurd h (by decide +kernel)), by decide +kernel, by decide +kernel⟩
theorem am_m252 : am_okm 252 := ⟨am_tw_at 8 238 rfl rfl, am_hw_in (z := (1, 16)) (by decide +kernel), (fun _ => am_hw_in (z := (8, 237)) (by decide +kernel)), (fun h => absurd rfl h), (fun h => absurd h (by decide +kernel)), by decide +kernel, by decide +kernel, (fun h => absurd h (by decide +kernel)), by decide +kernel, by decide +kernel⟩
theorem am_m253 : am_okm 253 := ⟨am_tw_at 8 233 rfl rfl, am_hw_in (z := (1, 16)) (by decide +kernel), (fun h => absurd h (by decide +kernel)), (fun _ => am_hw_in (z := (8, 231)) (by decide +kernel)), (fun _ => am_hw_in (z := (8, 232)) (by decide +kernel)), by decide +kernel, by decide +kernel, (fun h => absurd h (by decide +kernel)), by decide +kernel, by decide +kernel⟩
theorem am_m254 : am_okm 254 := ⟨am_tw_at 9 2 rfl rfl, am_hw_in (z := (1, 16)) (by decide +kernel), (fun h => absurd h (by decide +kernel)), (fun _ => am_hw_in (z := (9, 0)) (by decide +kernel)), (fun _ => am_hw_in (z := (9, 1)) (by decide +kernel)), by decide +kernel, by decide +kernel, (fun h => absurd h (by decide +kernel)), by decide +kernel, by decide +kernel⟩
theorem am_m255 : am_okm 255 := ⟨am_tw_at 9 6 rfl rfl, am_hw_in (z := (1, 16)) (by decide +kernel), (fun h => absurd h (by decide +kernel)), (fun _ => am_hw_in (z := (9, 4)) (by decide +kernel)), (fun _ => am_hw_in (z := (9, 5)) (by decide +kernel)), by decide +kernel, by decide +kernel, (fun h => absurd h (by decide +kernel)), by decide +kernel, by decide +kernel⟩
theorem am_m256 : am_okm 256 := ⟨am_tw_at 9 10 rfl rfl, am_hw_in (z := (1, 16)) (by decide +kernel), (fun h => absurd h (by decide +kernel)), (fun _ => am_hw_in (z := (9, 8)) (by decide +kernel)), (fun _ => am_hw_in (z := (9, 9)) (by decide +kernel)), by decide +kernel, by decide +kernel, (fun h => absurd h (by decide +kernel)), by decide +kernel, by decide +kernel⟩
theorem am_m257 : am_okm 257 := ⟨am_tw_at 9 14 rfl rfl, am_hw_in (z := (1, 16)) (by decide +kernel), (fun h => absurd h (by decide +kernel)), (fun _ => am_hw_in (z := (9, 12)) (by decide +kernel)), (fun _ => am_hw_in (z := (9, 13)) (by decide +kernel)), by decide +kernel, by decide +kernel, (fun h => absurd h (by decide +kernel)), by decide +kernel, by decide +kernel⟩
theorem am_m258 : am_okm 258 := ⟨am_tw_at 9 18 rfl rfl, am_hw_in (z := (1, 16)) (by decide +kernel), (fun h => absurd h (by decide +kernel)), (fun _ => am_hw_in (z := (9, 16)) (by decide +kernel)), (fun _ => am_hw_in (z := (9, 17)) (by decide +kernel)), by decide +kernel, by decide +kernel, (fun h => absurd h (by decide +kernel)), by decide +kernel, by decide +kernel⟩
theorem am_m259 : am_okm 259 := ⟨am_tw_at 9 22 rfl rfl, am_hw_in (z := (1, 16)) (by decide +kernel), (fun h => absurd h (by decide +kernel)), (fun _ => am_hw_in (z := (9, 20)) (by decide +kernel)), (fun _ => am_hw_in (z := (9, 21)) (by decide +kernel)), by decide +kernel, by decide +kernel, (fun h => absurd h (by decide +kernel)), by decide +kernel, by decide +kernel⟩
theorem am_m260 : am_okm 260 := ⟨am_tw_at 9 30 rfl rfl, am_hw_in (z := (1, 16)) (by decide +kernel), (fun h => absurd h (by decide +kernel)), (fun _ => am_hw_in (z := (9, 29)) (by decide +kernel)), (fun _ => am_hw_in (z := (0, 113)) (by decide +kernel)), by decide +kernel, by decide +kernel, (fun h => absurd h (by decide +kernel)), by decide +kernel, by decide +kernel⟩
theorem am_m261 : am_okm 261 := ⟨am_tw_at 9 26 rfl rfl, am_hw_in (z := (1, 16)) (by decide +kernel), (fun h => absurd h (by decide +kernel)), (fun _ => am_hw_in (z := (9, 24)) (by decide +kernel)), (fun _ => am_hw_in (z := (9, 25)) (by decide +kernel)), by decide +kernel, by decide +kernel, (fun h => absurd h (by decide +kernel)), by decide +kernel, by decide +kernel⟩
theorem am_m262 : am_okm 262 := ⟨am_tw_at 9 34 rfl rfl, am_hw_in (z := (1, 16)) (by decide +kernel), (fun h => absurd h (by decide +kernel)), (fun _ => am_hw_in (z := (9, 32)) (by decide +kernel)), (fun _ => am_hw_in (z := (9, 33)) (by decide +kernel)), by decide +kernel, by decide +kernel, (fun h => absurd h (by decide +kernel)), by decide +kernel, by decide +kernel⟩
theorem am_m263 : am_okm 263 := ⟨am_tw_at 9 38 rfl rfl, am_hw_in (z := (1, 16)) (by decide +kernel), (fun h => absurd h (by decide +kernel)), (fun _ => am_hw_in (z := (9, 36)) (by decide +kernel)), (fun _ => am_hw_in (z := (9, 37)) (by decide +kernel)), by decide +kernel, by decide +kernel, (fun h => absurd h (by decide +kernel)), by decide +kernel, by decide +kernel⟩
theorem am_m264 : am_okm 264 := ⟨am_tw_at 9 42 rfl rfl, am_hw_in (z := (1, 16)) (by decide +kernel), (fun h => absurd h (by decide +kernel)), (fun _ => am_hw_in (z := (9, 40)) (by decide +kernel)), (fun _ => am_hw_in (z := (9, 41)) (by decide +kernel)), by decide +kernel, by decide +kernel, (fun h => absurd h (by decide +kernel)), by decide +kernel, by decide +kernel⟩
theorem am_m265 : am_okm 265 := ⟨am_tw_at 9 54 rfl rfl, am_hw_in (z := (1, 16)) (by decide +kernel), (fun h => absurd h (by decide +kernel)), (fun _ => am_hw_in (z := (9, 53)) (by decide +kernel)), (fun _ => am_hw_in (z := (0, 115)) (by decide +kernel)), by decide +kernel, by decide +kernel, (fun h => absurd h (by decide +kernel)), by decide +kernel, by decide +kernel⟩
theorem am_m266 : am_okm 266 := ⟨am_tw_at 9 50 rfl rfl, am_hw_in (z := (1, 16)) (by decide +kernel), (fun h => absurd h (by decide +kernel)), (fun _ => am_hw_in (z := (9, 49)) (by decide +kernel)), (fun _ => am_hw_in (z := (0, 114)) (by decide +kernel)), by decide +kernel, by decide +kernel, (fun h => absurd h (by decide +kernel)), by decide +kernel, by decide +kernel⟩
theorem am_m267 : am_okm 267 := ⟨am_tw_at 9 46 rfl rfl, am_hw_in (z := (1, 16)) (by decide +kernel), (fun h => absurd h (by decide +kernel)), (fun _ => am_hw_in (z := (9, 44)) (by decide +kernel)), (fun _ => am_hw_in (z := (9, 45)) (by decide +kernel)), by decide +kernel, by decide +kernel, (fun h => absurd h (by decide +kernel)), by decide +kernel, by decide +kernel⟩
theorem am_m268 : am_okm 268 := ⟨am_tw_at 9 66 rfl rfl, am_hw_in (z := (1, 16)) (by decide +kernel), (fun h => absurd h (by decide +kernel)), (fun _ => am_hw_in (z := (9, 65)) (by decide +kernel)), (fun _ => am_hw_in (z := (0, 117)) (by decide +kernel)), by decide +kernel, by decide +kernel, (fun h => absurd h (by decide +kernel)), by decide +kernel, by decide +kernel⟩
theorem am_m269 : am_okm 269 := ⟨am_tw_at 9 62 rfl rfl, am_hw_in (z := (1, 16)) (by decide +kernel), (fun h => absurd h (by decide +kernel)), (fun _ => am_hw_in (z := (9, 61)) (by decide +kernel)), (fun _ => am_hw_in (z := (0, 116)) (by decide +kernel)), by decide +kernel, by decide +kernel, (fun h => absurd h (by decide +kernel)), by decide +kernel, by decide +kernel⟩
theorem am_m270 : am_okm 270 := ⟨am_tw_at 9 58 rfl rfl, am_hw_in (z := (1, 16)) (by decide +kernel), (fun h => absurd h (by decide +kernel)), (fun _ => am_hw_in (z := (9, 56)) (by decide +kernel)), (fun _ => am_hw_in (z := (9, 57)) (by decide +kernel)), by decide +kernel, by decide +kernel, (fun h => absurd h (by decide +kernel)), by decide +kernel, by decide +kernel⟩
theorem am_m271 : am_okm 271 := ⟨am_tw_at 9 70 rfl rfl, am_hw_in (z := (1, 16)) (by decide +kernel), (fun h => absurd h (by decide +kernel)), (fun _ => am_hw_in (z := (9, 68)) (by decide +kernel)), (fun _ => am_hw_in (z := (9, 69)) (by decide +kernel)), by decide +kernel, by decide +kernel, (fun h => absurd h (by decide +kernel)), by decide +kernel, by decide +kernel⟩
theorem am_m272 : am_okm 272 := ⟨am_tw_at 9 74 rfl rfl, am_hw_in (z := (1, 16)) (by decide +kernel), (fun h => absurd h (by decide +kernel)), (fun _ => am_hw_in (z := (9, 72)) (by decide +kernel)), (fun _ => am_hw_in (z := (9, 73)) (by decide +kernel)), by decide +kernel, by decide +kernel, (fun h => absurd h (by decide +kernel)), by decide +kernel, by decide +kernel⟩
theorem am_m273 : am_okm 273 := ⟨am_tw_at 8 94 rfl rfl, am_hw_in (z := (1, 16)) (by decide +kernel), (fun h => absurd h (by decide +kernel)), (fun _ => am_hw_in (z := (8, 93)) (by decide +kernel)), (fun _ => am_hw_in (z := (0, 97)) (by decide +kernel)), by decide +kernel, by decide +kernel, (fun h => absurd h (by decide +kernel)), by decide +kernel, by decide +kernel⟩
theorem am_m274 : am_okm 274 := ⟨am_tw_at 9 82 rfl rfl, am_hw_in (z := (1, 16)) (by decide +kernel), (fun h => absurd h (by decide +kernel)), (fun _ => am_hw_in (z := (9, 81)) (by decide +kernel)), (fun _ => am_hw_in (z := (0, 118)) (by decide +kernel)), by decide +kernel, by decide +kernel, (fun h => absurd h (by decide +kernel)), by decide +kernel, by decide +kernel⟩
theorem am_m275 : am_okm 275 := ⟨am_tw_at 8 90 rfl rfl, am_hw_in (z := (1, 16)) (by decide +kernel), (fun h => absurd h (by decide +kernel)), (fun _ => am_hw_in (z := (8, 89)) (by decide +kernel)), (fun _ => am_hw_in (z := (0, 96)) (by decide +kernel)), by decide +kernel, by decide +kernel, (fun h => absurd h (by decide +kernel)), by decide +kernel, by decide +kernel⟩
theorem am_m276 : am_okm 276 := ⟨am_tw_at 9 78 rfl rfl, am_hw_in (z := (1, 16)) (by decide +kernel), (fun h => absurd h (by decide +kernel)), (fun _ => am_hw_in (z := (9, 76)) (by decide +kernel)), (fun _ => am_hw_in (z := (9, 77)) (by decide +kernel)), by decide +kernel, by decide +kernel, (fun h => absurd h (by decide +kernel)), by decide +kernel, by decide +kernel⟩
theorem am_m277 : am_okm 277 := ⟨am_tw_at 9 86 rfl rfl, am_hw_in (z := (1, 16)) (by decide +kernel), (fun h => absurd h (by decide +kernel)), (fun _ => am_hw_in (z := (9, 84)) (by decide +kernel)), (fun _ => am_hw_in (z := (9, 85)) (by decide +kernel)), by decide +kernel, by decide +kernel, (fun h => absurd h (by decide +kernel)), by decide +kernel, by decide +kernel⟩
theorem am_m278 : am_okm 278 := ⟨am_tw_at 9 90 rfl rfl, am_hw_in (z := (1, 16)) (by decide +kernel), (fun h => absurd h (by decide +kernel)), (fun _ => am_hw_in (z := (9, 88)) (by decide +kernel)), (fun _ => am_hw_in (z := (9, 89)) (by decide +kernel)), by decide +kernel, by decide +kernel, (fun h => absurd h (by decide +kernel)), by decide +kernel, by decide +kernel⟩
theorem am_m279 : am_okm 279 := ⟨am_tw_at 9 94 rfl rfl, am_hw_in (z := (1, 16)) (by decide +kernel), (fun h => absurd h (by decide +kernel)), (fun _ => am_hw_in (z := (9, 92)) (by decide +kernel)), (fun _ => am_hw_in (z := (9, 93)) (by decide +kernel)), by decide +kernel, by decide +kernel, (fun h => absurd h (by decide +kernel)), by decide +kernel, by decide +kernel⟩
theorem am_m280 : am_okm 280 := ⟨am_tw_at 3 114 rfl rfl, am_hw_in (z := (1, 18)) (by decide +kernel), (fun _ => am_hw_in (z := (3, 113)) (by decide +kernel)), (fun h => absurd rfl h), (fun h => absurd h (by decide +kernel)), by decide +kernel, by decide +kernel, (fun h => absurd h (by decide +kernel)), by decide +kernel, by decide +kernel⟩
theorem am_mg0 {j : Nat} (h1 : 0 ≤ j) (h2 : j ≤ 39) : am_okm j := by
  rcases Nat.lt_or_ge 19 j with z0_39 | z0_39
  ·
    rcases Nat.lt_or_ge 29 j with z20_39 | z20_39
    ·
      rcases Nat.lt_or_ge 34 j with z30_39 | z30_39
      ·
        rcases Nat.lt_or_ge 37 j with z35_39 | z35_39
        ·
          rcases Nat.lt_or_ge 38 j with z38_39 | z38_39
          ·
            obtain rfl : j = 39 := by omega
            exact am_m39
          ·
            obtain rfl : j = 38 := by omega
            exact am_m38
        ·
          rcases Nat.lt_or_ge 36 j with z35_37 | z35_37
          ·
            obtain rfl : j = 37 := by omega
            exact am_m37
          ·
            rcases Nat.lt_or_ge 35 j with z35_36 | z35_36
            ·
              obtain rfl : j = 36 := by omega
              exact am_m36
            ·
              obtain rfl : j = 35 := by omega
              exact am_m35
      ·
        rcases Nat.lt_or_ge 32 j with z30_34 | z30_34
        ·
          rcases Nat.lt_or_ge 33 j with z33_34 | z33_34
          ·
            obtain rfl : j = 34 := by omega
            exact am_m34
          ·
            obtain rfl : j = 33 := by omega
            exact am_m33
        ·
          rcases Nat.lt_or_ge 31 j with z30_32 | z30_32
          ·
            obtain rfl : j = 32 := by omega
            exact am_m32
          ·
            rcases Nat.lt_or_ge 30 j with z30_31 | z30_31
            ·
              obtain rfl : j = 31 := by omega
              exact am_m31
            ·
              obtain rfl : j = 30 := by omega
              exact am_m30
    ·
      rcases Nat.lt_or_ge 24 j with z20_29 | z20_29
      ·
        rcases Nat.lt_or_ge 27 j with z25_29 | z25_29
        ·
          rcases Nat.lt_or_ge 28 j with z28_29 | z28_29
          ·
            obtain rfl : j = 29 := by omega
            exact am_m29
          ·
            obtain rfl : j = 28 := by omega
            exact am_m28
        ·
          rcases Nat.lt_or_ge 26 j with z25_27 | z25_27
          ·
            obtain rfl : j = 27 := by omega
            exact am_m27
          ·
            rcases Nat.lt_or_ge 25 j with z25_26 | z25_26
            ·
              obtain rfl : j = 26 := by omega
              exact am_m26
            ·
              obtain rfl : j = 25 := by omega
              exact am_m25
      ·
        rcases Nat.lt_or_ge 22 j with z20_24 | z20_24
        ·
          rcases Nat.lt_or_ge 23 j with z23_24 | z23_24
          ·
            obtain rfl : j = 24 := by omega
            exact am_m24
          ·
            obtain rfl : j = 23 := by omega
            exact am_m23
        ·
          rcases Nat.lt_or_ge 21 j with z20_22 | z20_22
          ·
            obtain rfl : j = 22 := by omega
            exact am_m22
          ·
            rcases Nat.lt_or_ge 20 j with z20_21 | z20_21
            ·
              obtain rfl : j = 21 := by omega
              exact am_m21
            ·
              obtain rfl : j = 20 := by omega
              exact am_m20
  ·
    rcases Nat.lt_or_ge 9 j with z0_19 | z0_19
    ·
      rcases Nat.lt_or_ge 14 j with z10_19 | z10_19
      ·
        rcases Nat.lt_or_ge 17 j with z15_19 | z15_19
        ·
          rcases Nat.lt_or_ge 18 j with z18_19 | z18_19
          ·
            obtain rfl : j = 19 := by omega
            exact am_m19
          ·
            obtain rfl : j = 18 := by omega
            exact am_m18
        ·
          rcases Nat.lt_or_ge 16 j with z15_17 | z15_17
          ·
            obtain rfl : j = 17 := by omega
            exact am_m17
          ·
            rcases Nat.lt_or_ge 15 j with z15_16 | z15_16
            ·
              obtain rfl : j = 16 := by omega
              exact am_m16
            ·
              obtain rfl : j = 15 := by omega
              exact am_m15
      ·
        rcases Nat.lt_or_ge 12 j with z10_14 | z10_14
        ·
          rcases Nat.lt_or_ge 13 j with z13_14 | z13_14
          ·
            obtain rfl : j = 14 := by omega
            exact am_m14
          ·
            obtain rfl : j = 13 := by omega
            exact am_m13
        ·
          rcases Nat.lt_or_ge 11 j with z10_12 | z10_12
          ·
            obtain rfl : j = 12 := by omega
            exact am_m12
          ·
            rcases Nat.lt_or_ge 10 j with z10_11 | z10_11
            ·
              obtain rfl : j = 11 := by omega
              exact am_m11
            ·
              obtain rfl : j = 10 := by omega
              exact am_m10
    ·
      rcases Nat.lt_or_ge 4 j with z0_9 | z0_9
      ·
        rcases Nat.lt_or_ge 7 j with z5_9 | z5_9
        ·
          rcases Nat.lt_or_ge 8 j with z8_9 | z8_9
          ·
            obtain rfl : j = 9 := by omega
            exact am_m9
          ·
            obtain rfl : j = 8 := by omega
            exact am_m8
        ·
          rcases Nat.lt_or_ge 6 j with z5_7 | z5_7
          ·
            obtain rfl : j = 7 := by omega
            exact am_m7
          ·
            rcases Nat.lt_or_ge 5 j with z5_6 | z5_6
            ·
              obtain rfl : j = 6 := by omega
              exact am_m6
            ·
              obtain rfl : j = 5 := by omega
              exact am_m5
      ·
        rcases Nat.lt_or_ge 2 j with z0_4 | z0_4
        ·
          rcases Nat.lt_or_ge 3 j with z3_4 | z3_4
          ·
            obtain rfl : j = 4 := by omega
            exact am_m4
          ·
            obtain rfl : j = 3 := by omega
            exact am_m3
        ·
          rcases Nat.lt_or_ge 1 j with z0_2 | z0_2
          ·
            obtain rfl : j = 2 := by omega
            exact am_m2
          ·
            rcases Nat.lt_or_ge 0 j with z0_1 | z0_1
            ·
              obtain rfl : j = 1 := by omega
              exact am_m1
            ·
              obtain rfl : j = 0 := by omega
              exact am_m0
theorem am_mg40 {j : Nat} (h1 : 40 ≤ j) (h2 : j ≤ 79) : am_okm j := by
  rcases Nat.lt_or_ge 59 j with z40_79 | z40_79
  ·
    rcases Nat.lt_or_ge 69 j with z60_79 | z60_79
    ·
      rcases Nat.lt_or_ge 74 j with z70_79 | z70_79
      ·
        rcases Nat.lt_or_ge 77 j with z75_79 | z75_79
        ·
          rcases Nat.lt_or_ge 78 j with z78_79 | z78_79
          ·
            obtain rfl : j = 79 := by omega
            exact am_m79
          ·
            obtain rfl : j = 78 := by omega
            exact am_m78
        ·
          rcases Nat.lt_or_ge 76 j with z75_77 | z75_77
          ·
            obtain rfl : j = 77 := by omega
            exact am_m77
          ·
            rcases Nat.lt_or_ge 75 j with z75_76 | z75_76
            ·
              obtain rfl : j = 76 := by omega
              exact am_m76
            ·
              obtain rfl : j = 75 := by omega
              exact am_m75
      ·
        rcases Nat.lt_or_ge 72 j with z70_74 | z70_74
        ·
          rcases Nat.lt_or_ge 73 j with z73_74 | z73_74
          ·
            obtain rfl : j = 74 := by omega
            exact am_m74
          ·
            obtain rfl : j = 73 := by omega
            exact am_m73
        ·
          rcases Nat.lt_or_ge 71 j with z70_72 | z70_72
          ·
            obtain rfl : j = 72 := by omega
            exact am_m72
          ·
            rcases Nat.lt_or_ge 70 j with z70_71 | z70_71
            ·
              obtain rfl : j = 71 := by omega
              exact am_m71
            ·
              obtain rfl : j = 70 := by omega
              exact am_m70
    ·
      rcases Nat.lt_or_ge 64 j with z60_69 | z60_69
      ·
        rcases Nat.lt_or_ge 67 j with z65_69 | z65_69
        ·
          rcases Nat.lt_or_ge 68 j with z68_69 | z68_69
          ·
            obtain rfl : j = 69 := by omega
            exact am_m69
          ·
            obtain rfl : j = 68 := by omega
            exact am_m68
        ·
          rcases Nat.lt_or_ge 66 j with z65_67 | z65_67
          ·
            obtain rfl : j = 67 := by omega
            exact am_m67
          ·
            rcases Nat.lt_or_ge 65 j with z65_66 | z65_66
            ·
              obtain rfl : j = 66 := by omega
              exact am_m66
            ·
              obtain rfl : j = 65 := by omega
              exact am_m65
      ·
        rcases Nat.lt_or_ge 62 j with z60_64 | z60_64
        ·
          rcases Nat.lt_or_ge 63 j with z63_64 | z63_64
          ·
            obtain rfl : j = 64 := by omega
            exact am_m64
          ·
            obtain rfl : j = 63 := by omega
            exact am_m63
        ·
          rcases Nat.lt_or_ge 61 j with z60_62 | z60_62
          ·
            obtain rfl : j = 62 := by omega
            exact am_m62
          ·
            rcases Nat.lt_or_ge 60 j with z60_61 | z60_61
            ·
              obtain rfl : j = 61 := by omega
              exact am_m61
            ·
              obtain rfl : j = 60 := by omega
              exact am_m60
  ·
    rcases Nat.lt_or_ge 49 j with z40_59 | z40_59
    ·
      rcases Nat.lt_or_ge 54 j with z50_59 | z50_59
      ·
        rcases Nat.lt_or_ge 57 j with z55_59 | z55_59
        ·
          rcases Nat.lt_or_ge 58 j with z58_59 | z58_59
          ·
            obtain rfl : j = 59 := by omega
            exact am_m59
          ·
            obtain rfl : j = 58 := by omega
            exact am_m58
        ·
          rcases Nat.lt_or_ge 56 j with z55_57 | z55_57
          ·
            obtain rfl : j = 57 := by omega
            exact am_m57
          ·
            rcases Nat.lt_or_ge 55 j with z55_56 | z55_56
            ·
              obtain rfl : j = 56 := by omega
              exact am_m56
            ·
              obtain rfl : j = 55 := by omega
              exact am_m55
      ·
        rcases Nat.lt_or_ge 52 j with z50_54 | z50_54
        ·
          rcases Nat.lt_or_ge 53 j with z53_54 | z53_54
          ·
            obtain rfl : j = 54 := by omega
            exact am_m54
          ·
            obtain rfl : j = 53 := by omega
            exact am_m53
        ·
          rcases Nat.lt_or_ge 51 j with z50_52 | z50_52
          ·
            obtain rfl : j = 52 := by omega
            exact am_m52
          ·
            rcases Nat.lt_or_ge 50 j with z50_51 | z50_51
            ·
              obtain rfl : j = 51 := by omega
              exact am_m51
            ·
              obtain rfl : j = 50 := by omega
              exact am_m50
    ·
      rcases Nat.lt_or_ge 44 j with z40_49 | z40_49
      ·
        rcases Nat.lt_or_ge 47 j with z45_49 | z45_49
        ·
          rcases Nat.lt_or_ge 48 j with z48_49 | z48_49
          ·
            obtain rfl : j = 49 := by omega
            exact am_m49
          ·
            obtain rfl : j = 48 := by omega
            exact am_m48
        ·
          rcases Nat.lt_or_ge 46 j with z45_47 | z45_47
          ·
            obtain rfl : j = 47 := by omega
            exact am_m47
          ·
            rcases Nat.lt_or_ge 45 j with z45_46 | z45_46
            ·
              obtain rfl : j = 46 := by omega
              exact am_m46
            ·
              obtain rfl : j = 45 := by omega
              exact am_m45
      ·
        rcases Nat.lt_or_ge 42 j with z40_44 | z40_44
        ·
          rcases Nat.lt_or_ge 43 j with z43_44 | z43_44
          ·
            obtain rfl : j = 44 := by omega
            exact am_m44
          ·
            obtain rfl : j = 43 := by omega
            exact am_m43
        ·
          rcases Nat.lt_or_ge 41 j with z40_42 | z40_42
          ·
            obtain rfl : j = 42 := by omega
            exact am_m42
          ·
            rcases Nat.lt_or_ge 40 j with z40_41 | z40_41
            ·
              obtain rfl : j = 41 := by omega
              exact am_m41
            ·
              obtain rfl : j = 40 := by omega
              exact am_m40
theorem am_mg80 {j : Nat} (h1 : 80 ≤ j) (h2 : j ≤ 119) : am_okm j := by
  rcases Nat.lt_or_ge 99 j with z80_119 | z80_119
  ·
    rcases Nat.lt_or_ge 109 j with z100_119 | z100_119
    ·
      rcases Nat.lt_or_ge 114 j with z110_119 | z110_119
      ·
        rcases Nat.lt_or_ge 117 j with z115_119 | z115_119
        ·
          rcases Nat.lt_or_ge 118 j with z118_119 | z118_119
          ·
            obtain rfl : j = 119 := by omega
            exact am_m119
          ·
            obtain rfl : j = 118 := by omega
            exact am_m118
        ·
          rcases Nat.lt_or_ge 116 j with z115_117 | z115_117
          ·
            obtain rfl : j = 117 := by omega
            exact am_m117
          ·
            rcases Nat.lt_or_ge 115 j with z115_116 | z115_116
            ·
              obtain rfl : j = 116 := by omega
              exact am_m116
            ·
              obtain rfl : j = 115 := by omega
              exact am_m115
      ·
        rcases Nat.lt_or_ge 112 j with z110_114 | z110_114
        ·
          rcases Nat.lt_or_ge 113 j with z113_114 | z113_114
          ·
            obtain rfl : j = 114 := by omega
            exact am_m114
          ·
            obtain rfl : j = 113 := by omega
            exact am_m113
        ·
          rcases Nat.lt_or_ge 111 j with z110_112 | z110_112
          ·
            obtain rfl : j = 112 := by omega
            exact am_m112
          ·
            rcases Nat.lt_or_ge 110 j with z110_111 | z110_111
            ·
              obtain rfl : j = 111 := by omega
              exact am_m111
            ·
              obtain rfl : j = 110 := by omega
              exact am_m110
    ·
      rcases Nat.lt_or_ge 104 j with z100_109 | z100_109
      ·
        rcases Nat.lt_or_ge 107 j with z105_109 | z105_109
        ·
          rcases Nat.lt_or_ge 108 j with z108_109 | z108_109
          ·
            obtain rfl : j = 109 := by omega
            exact am_m109
          ·
            obtain rfl : j = 108 := by omega
            exact am_m108
        ·
          rcases Nat.lt_or_ge 106 j with z105_107 | z105_107
          ·
            obtain rfl : j = 107 := by omega
            exact am_m107
          ·
            rcases Nat.lt_or_ge 105 j with z105_106 | z105_106
            ·
              obtain rfl : j = 106 := by omega
              exact am_m106
            ·
              obtain rfl : j = 105 := by omega
              exact am_m105
      ·
        rcases Nat.lt_or_ge 102 j with z100_104 | z100_104
        ·
          rcases Nat.lt_or_ge 103 j with z103_104 | z103_104
          ·
            obtain rfl : j = 104 := by omega
            exact am_m104
          ·
            obtain rfl : j = 103 := by omega
            exact am_m103
        ·
          rcases Nat.lt_or_ge 101 j with z100_102 | z100_102
          ·
            obtain rfl : j = 102 := by omega
            exact am_m102
          ·
            rcases Nat.lt_or_ge 100 j with z100_101 | z100_101
            ·
              obtain rfl : j = 101 := by omega
              exact am_m101
            ·
              obtain rfl : j = 100 := by omega
              exact am_m100
  ·
    rcases Nat.lt_or_ge 89 j with z80_99 | z80_99
    ·
      rcases Nat.lt_or_ge 94 j with z90_99 | z90_99
      ·
        rcases Nat.lt_or_ge 97 j with z95_99 | z95_99
        ·
          rcases Nat.lt_or_ge 98 j with z98_99 | z98_99
          ·
            obtain rfl : j = 99 := by omega
            exact am_m99
          ·
            obtain rfl : j = 98 := by omega
            exact am_m98
        ·
          rcases Nat.lt_or_ge 96 j with z95_97 | z95_97
          ·
            obtain rfl : j = 97 := by omega
            exact am_m97
          ·
            rcases Nat.lt_or_ge 95 j with z95_96 | z95_96
            ·
              obtain rfl : j = 96 := by omega
              exact am_m96
            ·
              obtain rfl : j = 95 := by omega
              exact am_m95
      ·
        rcases Nat.lt_or_ge 92 j with z90_94 | z90_94
        ·
          rcases Nat.lt_or_ge 93 j with z93_94 | z93_94
          ·
            obtain rfl : j = 94 := by omega
            exact am_m94
          ·
            obtain rfl : j = 93 := by omega
            exact am_m93
        ·
          rcases Nat.lt_or_ge 91 j with z90_92 | z90_92
          ·
            obtain rfl : j = 92 := by omega
            exact am_m92
          ·
            rcases Nat.lt_or_ge 90 j with z90_91 | z90_91
            ·
              obtain rfl : j = 91 := by omega
              exact am_m91
            ·
              obtain rfl : j = 90 := by omega
              exact am_m90
    ·
      rcases Nat.lt_or_ge 84 j with z80_89 | z80_89
      ·
        rcases Nat.lt_or_ge 87 j with z85_89 | z85_89
        ·
          rcases Nat.lt_or_ge 88 j with z88_89 | z88_89
          ·
            obtain rfl : j = 89 := by omega
            exact am_m89
          ·
            obtain rfl : j = 88 := by omega
            exact am_m88
        ·
          rcases Nat.lt_or_ge 86 j with z85_87 | z85_87
          ·
            obtain rfl : j = 87 := by omega
            exact am_m87
          ·
            rcases Nat.lt_or_ge 85 j with z85_86 | z85_86
            ·
              obtain rfl : j = 86 := by omega
              exact am_m86
            ·
              obtain rfl : j = 85 := by omega
              exact am_m85
      ·
        rcases Nat.lt_or_ge 82 j with z80_84 | z80_84
        ·
          rcases Nat.lt_or_ge 83 j with z83_84 | z83_84
          ·
            obtain rfl : j = 84 := by omega
            exact am_m84
          ·
            obtain rfl : j = 83 := by omega
            exact am_m83
        ·
          rcases Nat.lt_or_ge 81 j with z80_82 | z80_82
          ·
            obtain rfl : j = 82 := by omega
            exact am_m82
          ·
            rcases Nat.lt_or_ge 80 j with z80_81 | z80_81
            ·
              obtain rfl : j = 81 := by omega
              exact am_m81
            ·
              obtain rfl : j = 80 := by omega
              exact am_m80
theorem am_mg120 {j : Nat} (h1 : 120 ≤ j) (h2 : j ≤ 159) : am_okm j := by
  rcases Nat.lt_or_ge 139 j with z120_159 | z120_159
  ·
    rcases Nat.lt_or_ge 149 j with z140_159 | z140_159
    ·
      rcases Nat.lt_or_ge 154 j with z150_159 | z150_159
      ·
        rcases Nat.lt_or_ge 157 j with z155_159 | z155_159
        ·
          rcases Nat.lt_or_ge 158 j with z158_159 | z158_159
          ·
            obtain rfl : j = 159 := by omega
            exact am_m159
          ·
            obtain rfl : j = 158 := by omega
            exact am_m158
        ·
          rcases Nat.lt_or_ge 156 j with z155_157 | z155_157
          ·
            obtain rfl : j = 157 := by omega
            exact am_m157
          ·
            rcases Nat.lt_or_ge 155 j with z155_156 | z155_156
            ·
              obtain rfl : j = 156 := by omega
              exact am_m156
            ·
              obtain rfl : j = 155 := by omega
              exact am_m155
      ·
        rcases Nat.lt_or_ge 152 j with z150_154 | z150_154
        ·
          rcases Nat.lt_or_ge 153 j with z153_154 | z153_154
          ·
            obtain rfl : j = 154 := by omega
            exact am_m154
          ·
            obtain rfl : j = 153 := by omega
            exact am_m153
        ·
          rcases Nat.lt_or_ge 151 j with z150_152 | z150_152
          ·
            obtain rfl : j = 152 := by omega
            exact am_m152
          ·
            rcases Nat.lt_or_ge 150 j with z150_151 | z150_151
            ·
              obtain rfl : j = 151 := by omega
              exact am_m151
            ·
              obtain rfl : j = 150 := by omega
              exact am_m150
    ·
      rcases Nat.lt_or_ge 144 j with z140_149 | z140_149
      ·
        rcases Nat.lt_or_ge 147 j with z145_149 | z145_149
        ·
          rcases Nat.lt_or_ge 148 j with z148_149 | z148_149
          ·
            obtain rfl : j = 149 := by omega
            exact am_m149
          ·
            obtain rfl : j = 148 := by omega
            exact am_m148
        ·
          rcases Nat.lt_or_ge 146 j with z145_147 | z145_147
          ·
            obtain rfl : j = 147 := by omega
            exact am_m147
          ·
            rcases Nat.lt_or_ge 145 j with z145_146 | z145_146
            ·
              obtain rfl : j = 146 := by omega
              exact am_m146
            ·
              obtain rfl : j = 145 := by omega
              exact am_m145
      ·
        rcases Nat.lt_or_ge 142 j with z140_144 | z140_144
        ·
          rcases Nat.lt_or_ge 143 j with z143_144 | z143_144
          ·
            obtain rfl : j = 144 := by omega
            exact am_m144
          ·
            obtain rfl : j = 143 := by omega
            exact am_m143
        ·
          rcases Nat.lt_or_ge 141 j with z140_142 | z140_142
          ·
            obtain rfl : j = 142 := by omega
            exact am_m142
          ·
            rcases Nat.lt_or_ge 140 j with z140_141 | z140_141
            ·
              obtain rfl : j = 141 := by omega
              exact am_m141
            ·
              obtain rfl : j = 140 := by omega
              exact am_m140
  ·
    rcases Nat.lt_or_ge 129 j with z120_139 | z120_139
    ·
      rcases Nat.lt_or_ge 134 j with z130_139 | z130_139
      ·
        rcases Nat.lt_or_ge 137 j with z135_139 | z135_139
        ·
          rcases Nat.lt_or_ge 138 j with z138_139 | z138_139
          ·
            obtain rfl : j = 139 := by omega
            exact am_m139
          ·
            obtain rfl : j = 138 := by omega
            exact am_m138
        ·
          rcases Nat.lt_or_ge 136 j with z135_137 | z135_137
          ·
            obtain rfl : j = 137 := by omega
            exact am_m137
          ·
            rcases Nat.lt_or_ge 135 j with z135_136 | z135_136
            ·
              obtain rfl : j = 136 := by omega
              exact am_m136
            ·
              obtain rfl : j = 135 := by omega
              exact am_m135
      ·
        rcases Nat.lt_or_ge 132 j with z130_134 | z130_134
        ·
          rcases Nat.lt_or_ge 133 j with z133_134 | z133_134
          ·
            obtain rfl : j = 134 := by omega
            exact am_m134
          ·
            obtain rfl : j = 133 := by omega
            exact am_m133
        ·
          rcases Nat.lt_or_ge 131 j with z130_132 | z130_132
          ·
            obtain rfl : j = 132 := by omega
            exact am_m132
          ·
            rcases Nat.lt_or_ge 130 j with z130_131 | z130_131
            ·
              obtain rfl : j = 131 := by omega
              exact am_m131
            ·
              obtain rfl : j = 130 := by omega
              exact am_m130
    ·
      rcases Nat.lt_or_ge 124 j with z120_129 | z120_129
      ·
        rcases Nat.lt_or_ge 127 j with z125_129 | z125_129
        ·
          rcases Nat.lt_or_ge 128 j with z128_129 | z128_129
          ·
            obtain rfl : j = 129 := by omega
            exact am_m129
          ·
            obtain rfl : j = 128 := by omega
            exact am_m128
        ·
          rcases Nat.lt_or_ge 126 j with z125_127 | z125_127
          ·
            obtain rfl : j = 127 := by omega
            exact am_m127
          ·
            rcases Nat.lt_or_ge 125 j with z125_126 | z125_126
            ·
              obtain rfl : j = 126 := by omega
              exact am_m126
            ·
              obtain rfl : j = 125 := by omega
              exact am_m125
      ·
        rcases Nat.lt_or_ge 122 j with z120_124 | z120_124
        ·
          rcases Nat.lt_or_ge 123 j with z123_124 | z123_124
          ·
            obtain rfl : j = 124 := by omega
            exact am_m124
          ·
            obtain rfl : j = 123 := by omega
            exact am_m123
        ·
          rcases Nat.lt_or_ge 121 j with z120_122 | z120_122
          ·
            obtain rfl : j = 122 := by omega
            exact am_m122
          ·
            rcases Nat.lt_or_ge 120 j with z120_121 | z120_121
            ·
              obtain rfl : j = 121 := by omega
              exact am_m121
            ·
              obtain rfl : j = 120 := by omega
              exact am_m120
theorem am_mg160 {j : Nat} (h1 : 160 ≤ j) (h2 : j ≤ 199) : am_okm j := by
  rcases Nat.lt_or_ge 179 j with z160_199 | z160_199
  ·
    rcases Nat.lt_or_ge 189 j with z180_199 | z180_199
    ·
      rcases Nat.lt_or_ge 194 j with z190_199 | z190_199
      ·
        rcases Nat.lt_or_ge 197 j with z195_199 | z195_199
        ·
          rcases Nat.lt_or_ge 198 j with z198_199 | z198_199
          ·
            obtain rfl : j = 199 := by omega
            exact am_m199
          ·
            obtain rfl : j = 198 := by omega
            exact am_m198
        ·
          rcases Nat.lt_or_ge 196 j with z195_197 | z195_197
          ·
            obtain rfl : j = 197 := by omega
            exact am_m197
          ·
            rcases Nat.lt_or_ge 195 j with z195_196 | z195_196
            ·
              obtain rfl : j = 196 := by omega
              exact am_m196
            ·
              obtain rfl : j = 195 := by omega
              exact am_m195
      ·
        rcases Nat.lt_or_ge 192 j with z190_194 | z190_194
        ·
          rcases Nat.lt_or_ge 193 j with z193_194 | z193_194
          ·
            obtain rfl : j = 194 := by omega
            exact am_m194
          ·
            obtain rfl : j = 193 := by omega
            exact am_m193
        ·
          rcases Nat.lt_or_ge 191 j with z190_192 | z190_192
          ·
            obtain rfl : j = 192 := by omega
            exact am_m192
          ·
            rcases Nat.lt_or_ge 190 j with z190_191 | z190_191
            ·
              obtain rfl : j = 191 := by omega
              exact am_m191
            ·
              obtain rfl : j = 190 := by omega
              exact am_m190
    ·
      rcases Nat.lt_or_ge 184 j with z180_189 | z180_189
      ·
        rcases Nat.lt_or_ge 187 j with z185_189 | z185_189
        ·
          rcases Nat.lt_or_ge 188 j with z188_189 | z188_189
          ·
            obtain rfl : j = 189 := by omega
            exact am_m189
          ·
            obtain rfl : j = 188 := by omega
            exact am_m188
        ·
          rcases Nat.lt_or_ge 186 j with z185_187 | z185_187
          ·
            obtain rfl : j = 187 := by omega
            exact am_m187
          ·
            rcases Nat.lt_or_ge 185 j with z185_186 | z185_186
            ·
              obtain rfl : j = 186 := by omega
              exact am_m186
            ·
              obtain rfl : j = 185 := by omega
              exact am_m185
      ·
        rcases Nat.lt_or_ge 182 j with z180_184 | z180_184
        ·
          rcases Nat.lt_or_ge 183 j with z183_184 | z183_184
          ·
            obtain rfl : j = 184 := by omega
            exact am_m184
          ·
            obtain rfl : j = 183 := by omega
            exact am_m183
        ·
          rcases Nat.lt_or_ge 181 j with z180_182 | z180_182
          ·
            obtain rfl : j = 182 := by omega
            exact am_m182
          ·
            rcases Nat.lt_or_ge 180 j with z180_181 | z180_181
            ·
              obtain rfl : j = 181 := by omega
              exact am_m181
            ·
              obtain rfl : j = 180 := by omega
              exact am_m180
  ·
    rcases Nat.lt_or_ge 169 j with z160_179 | z160_179
    ·
      rcases Nat.lt_or_ge 174 j with z170_179 | z170_179
      ·
        rcases Nat.lt_or_ge 177 j with z175_179 | z175_179
        ·
          rcases Nat.lt_or_ge 178 j with z178_179 | z178_179
          ·
            obtain rfl : j = 179 := by omega
            exact am_m179
          ·
            obtain rfl : j = 178 := by omega
            exact am_m178
        ·
          rcases Nat.lt_or_ge 176 j with z175_177 | z175_177
          ·
            obtain rfl : j = 177 := by omega
            exact am_m177
          ·
            rcases Nat.lt_or_ge 175 j with z175_176 | z175_176
            ·
              obtain rfl : j = 176 := by omega
              exact am_m176
            ·
              obtain rfl : j = 175 := by omega
              exact am_m175
      ·
        rcases Nat.lt_or_ge 172 j with z170_174 | z170_174
        ·
          rcases Nat.lt_or_ge 173 j with z173_174 | z173_174
          ·
            obtain rfl : j = 174 := by omega
            exact am_m174
          ·
            obtain rfl : j = 173 := by omega
            exact am_m173
        ·
          rcases Nat.lt_or_ge 171 j with z170_172 | z170_172
          ·
            obtain rfl : j = 172 := by omega
            exact am_m172
          ·
            rcases Nat.lt_or_ge 170 j with z170_171 | z170_171
            ·
              obtain rfl : j = 171 := by omega
              exact am_m171
            ·
              obtain rfl : j = 170 := by omega
              exact am_m170
    ·
      rcases Nat.lt_or_ge 164 j with z160_169 | z160_169
      ·
        rcases Nat.lt_or_ge 167 j with z165_169 | z165_169
        ·
          rcases Nat.lt_or_ge 168 j with z168_169 | z168_169
          ·
            obtain rfl : j = 169 := by omega
            exact am_m169
          ·
            obtain rfl : j = 168 := by omega
            exact am_m168
        ·
          rcases Nat.lt_or_ge 166 j with z165_167 | z165_167
          ·
            obtain rfl : j = 167 := by omega
            exact am_m167
          ·
            rcases Nat.lt_or_ge 165 j with z165_166 | z165_166
            ·
              obtain rfl : j = 166 := by omega
              exact am_m166
            ·
              obtain rfl : j = 165 := by omega
              exact am_m165
      ·
        rcases Nat.lt_or_ge 162 j with z160_164 | z160_164
        ·
          rcases Nat.lt_or_ge 163 j with z163_164 | z163_164
          ·
            obtain rfl : j = 164 := by omega
            exact am_m164
          ·
            obtain rfl : j = 163 := by omega
            exact am_m163
        ·
          rcases Nat.lt_or_ge 161 j with z160_162 | z160_162
          ·
            obtain rfl : j = 162 := by omega
            exact am_m162
          ·
            rcases Nat.lt_or_ge 160 j with z160_161 | z160_161
            ·
              obtain rfl : j = 161 := by omega
              exact am_m161
            ·
              obtain rfl : j = 160 := by omega
              exact am_m160
theorem am_mg200 {j : Nat} (h1 : 200 ≤ j) (h2 : j ≤ 239) : am_okm j := by
  rcases Nat.lt_or_ge 219 j with z200_239 | z200_239
  ·
    rcases Nat.lt_or_ge 229 j with z220_239 | z220_239
    ·
      rcases Nat.lt_or_ge 234 j with z230_239 | z230_239
      ·
        rcases Nat.lt_or_ge 237 j with z235_239 | z235_239
        ·
          rcases Nat.lt_or_ge 238 j with z238_239 | z238_239
          ·
            obtain rfl : j = 239 := by omega
            exact am_m239
          ·
            obtain rfl : j = 238 := by omega
            exact am_m238
        ·
          rcases Nat.lt_or_ge 236 j with z235_237 | z235_237
          ·
            obtain rfl : j = 237 := by omega
            exact am_m237
          ·
            rcases Nat.lt_or_ge 235 j with z235_236 | z235_236
            ·
              obtain rfl : j = 236 := by omega
              exact am_m236
            ·
              obtain rfl : j = 235 := by omega
              exact am_m235
      ·
        rcases Nat.lt_or_ge 232 j with z230_234 | z230_234
        ·
          rcases Nat.lt_or_ge 233 j with z233_234 | z233_234
          ·
            obtain rfl : j = 234 := by omega
            exact am_m234
          ·
            obtain rfl : j = 233 := by omega
            exact am_m233
        ·
          rcases Nat.lt_or_ge 231 j with z230_232 | z230_232
          ·
            obtain rfl : j = 232 := by omega
            exact am_m232
          ·
            rcases Nat.lt_or_ge 230 j with z230_231 | z230_231
            ·
              obtain rfl : j = 231 := by omega
              exact am_m231
            ·
              obtain rfl : j = 230 := by omega
              exact am_m230
    ·
      rcases Nat.lt_or_ge 224 j with z220_229 | z220_229
      ·
        rcases Nat.lt_or_ge 227 j with z225_229 | z225_229
        ·
          rcases Nat.lt_or_ge 228 j with z228_229 | z228_229
          ·
            obtain rfl : j = 229 := by omega
            exact am_m229
          ·
            obtain rfl : j = 228 := by omega
            exact am_m228
        ·
          rcases Nat.lt_or_ge 226 j with z225_227 | z225_227
          ·
            obtain rfl : j = 227 := by omega
            exact am_m227
          ·
            rcases Nat.lt_or_ge 225 j with z225_226 | z225_226
            ·
              obtain rfl : j = 226 := by omega
              exact am_m226
            ·
              obtain rfl : j = 225 := by omega
              exact am_m225
      ·
        rcases Nat.lt_or_ge 222 j with z220_224 | z220_224
        ·
          rcases Nat.lt_or_ge 223 j with z223_224 | z223_224
          ·
            obtain rfl : j = 224 := by omega
            exact am_m224
          ·
            obtain rfl : j = 223 := by omega
            exact am_m223
        ·
          rcases Nat.lt_or_ge 221 j with z220_222 | z220_222
          ·
            obtain rfl : j = 222 := by omega
            exact am_m222
          ·
            rcases Nat.lt_or_ge 220 j with z220_221 | z220_221
            ·
              obtain rfl : j = 221 := by omega
              exact am_m221
            ·
              obtain rfl : j = 220 := by omega
              exact am_m220
  ·
    rcases Nat.lt_or_ge 209 j with z200_219 | z200_219
    ·
      rcases Nat.lt_or_ge 214 j with z210_219 | z210_219
      ·
        rcases Nat.lt_or_ge 217 j with z215_219 | z215_219
        ·
          rcases Nat.lt_or_ge 218 j with z218_219 | z218_219
          ·
            obtain rfl : j = 219 := by omega
            exact am_m219
          ·
            obtain rfl : j = 218 := by omega
            exact am_m218
        ·
          rcases Nat.lt_or_ge 216 j with z215_217 | z215_217
          ·
            obtain rfl : j = 217 := by omega
            exact am_m217
          ·
            rcases Nat.lt_or_ge 215 j with z215_216 | z215_216
            ·
              obtain rfl : j = 216 := by omega
              exact am_m216
            ·
              obtain rfl : j = 215 := by omega
              exact am_m215
      ·
        rcases Nat.lt_or_ge 212 j with z210_214 | z210_214
        ·
          rcases Nat.lt_or_ge 213 j with z213_214 | z213_214
          ·
            obtain rfl : j = 214 := by omega
            exact am_m214
          ·
            obtain rfl : j = 213 := by omega
            exact am_m213
        ·
          rcases Nat.lt_or_ge 211 j with z210_212 | z210_212
          ·
            obtain rfl : j = 212 := by omega
            exact am_m212
          ·
            rcases Nat.lt_or_ge 210 j with z210_211 | z210_211
            ·
              obtain rfl : j = 211 := by omega
              exact am_m211
            ·
              obtain rfl : j = 210 := by omega
              exact am_m210
    ·
      rcases Nat.lt_or_ge 204 j with z200_209 | z200_209
      ·
        rcases Nat.lt_or_ge 207 j with z205_209 | z205_209
        ·
          rcases Nat.lt_or_ge 208 j with z208_209 | z208_209
          ·
            obtain rfl : j = 209 := by omega
            exact am_m209
          ·
            obtain rfl : j = 208 := by omega
            exact am_m208
        ·
          rcases Nat.lt_or_ge 206 j with z205_207 | z205_207
          ·
            obtain rfl : j = 207 := by omega
            exact am_m207
          ·
            rcases Nat.lt_or_ge 205 j with z205_206 | z205_206
            ·
              obtain rfl : j = 206 := by omega
              exact am_m206
            ·
              obtain rfl : j = 205 := by omega
              exact am_m205
      ·
        rcases Nat.lt_or_ge 202 j with z200_204 | z200_204
        ·
          rcases Nat.lt_or_ge 203 j with z203_204 | z203_204
          ·
            obtain rfl : j = 204 := by omega
            exact am_m204
          ·
            obtain rfl : j = 203 := by omega
            exact am_m203
        ·
          rcases Nat.lt_or_ge 201 j with z200_202 | z200_202
          ·
            obtain rfl : j = 202 := by omega
            exact am_m202
          ·
            rcases Nat.lt_or_ge 200 j with z200_201 | z200_201
            ·
              obtain rfl : j = 201 := by omega
              exact am_m201
            ·
              obtain rfl : j = 200 := by omega
              exact am_m200
theorem am_mg240 {j : Nat} (h1 : 240 ≤ j) (h2 : j ≤ 279) : am_okm j := by
  rcases Nat.lt_or_ge 259 j with z240_279 | z240_279
  ·
    rcases Nat.lt_or_ge 269 j with z260_279 | z260_279
    ·
      rcases Nat.lt_or_ge 274 j with z270_279 | z270_279
      ·
        rcases Nat.lt_or_ge 277 j with z275_279 | z275_279
        ·
          rcases Nat.lt_or_ge 278 j with z278_279 | z278_279
          ·
            obtain rfl : j = 279 := by omega
            exact am_m279
          ·
            obtain rfl : j = 278 := by omega
            exact am_m278
        ·
          rcases Nat.lt_or_ge 276 j with z275_277 | z275_277
          ·
            obtain rfl : j = 277 := by omega
            exact am_m277
          ·
            rcases Nat.lt_or_ge 275 j with z275_276 | z275_276
            ·
              obtain rfl : j = 276 := by omega
              exact am_m276
            ·
              obtain rfl : j = 275 := by omega
              exact am_m275
      ·
        rcases Nat.lt_or_ge 272 j with z270_274 | z270_274
        ·
          rcases Nat.lt_or_ge 273 j with z273_274 | z273_274
          ·
            obtain rfl : j = 274 := by omega
            exact am_m274
          ·
            obtain rfl : j = 273 := by omega
            exact am_m273
        ·
          rcases Nat.lt_or_ge 271 j with z270_272 | z270_272
          ·
            obtain rfl : j = 272 := by omega
            exact am_m272
          ·
            rcases Nat.lt_or_ge 270 j with z270_271 | z270_271
            ·
              obtain rfl : j = 271 := by omega
              exact am_m271
            ·
              obtain rfl : j = 270 := by omega
              exact am_m270
    ·
      rcases Nat.lt_or_ge 264 j with z260_269 | z260_269
      ·
        rcases Nat.lt_or_ge 267 j with z265_269 | z265_269
        ·
          rcases Nat.lt_or_ge 268 j with z268_269 | z268_269
          ·
            obtain rfl : j = 269 := by omega
            exact am_m269
          ·
            obtain rfl : j = 268 := by omega
            exact am_m268
        ·
          rcases Nat.lt_or_ge 266 j with z265_267 | z265_267
          ·
            obtain rfl : j = 267 := by omega
            exact am_m267
          ·
            rcases Nat.lt_or_ge 265 j with z265_266 | z265_266
            ·
              obtain rfl : j = 266 := by omega
              exact am_m266
            ·
              obtain rfl : j = 265 := by omega
              exact am_m265
      ·
        rcases Nat.lt_or_ge 262 j with z260_264 | z260_264
        ·
          rcases Nat.lt_or_ge 263 j with z263_264 | z263_264
          ·
            obtain rfl : j = 264 := by omega
            exact am_m264
          ·
            obtain rfl : j = 263 := by omega
            exact am_m263
        ·
          rcases Nat.lt_or_ge 261 j with z260_262 | z260_262
          ·
            obtain rfl : j = 262 := by omega
            exact am_m262
          ·
            rcases Nat.lt_or_ge 260 j with z260_261 | z260_261
            ·
              obtain rfl : j = 261 := by omega
              exact am_m261
            ·
              obtain rfl : j = 260 := by omega
              exact am_m260
  ·
    rcases Nat.lt_or_ge 249 j with z240_259 | z240_259
    ·
      rcases Nat.lt_or_ge 254 j with z250_259 | z250_259
      ·
        rcases Nat.lt_or_ge 257 j with z255_259 | z255_259
        ·
          rcases Nat.lt_or_ge 258 j with z258_259 | z258_259
          ·
            obtain rfl : j = 259 := by omega
            exact am_m259
          ·
            obtain rfl : j = 258 := by omega
            exact am_m258
        ·
          rcases Nat.lt_or_ge 256 j with z255_257 | z255_257
          ·
            obtain rfl : j = 257 := by omega
            exact am_m257
          ·
            rcases Nat.lt_or_ge 255 j with z255_256 | z255_256
            ·
              obtain rfl : j = 256 := by omega
              exact am_m256
            ·
              obtain rfl : j = 255 := by omega
              exact am_m255
      ·
        rcases Nat.lt_or_ge 252 j with z250_254 | z250_254
        ·
          rcases Nat.lt_or_ge 253 j with z253_254 | z253_254
          ·
            obtain rfl : j = 254 := by omega
            exact am_m254
          ·
            obtain rfl : j = 253 := by omega
            exact am_m253
        ·
          rcases Nat.lt_or_ge 251 j with z250_252 | z250_252
          ·
            obtain rfl : j = 252 := by omega
            exact am_m252
          ·
            rcases Nat.lt_or_ge 250 j with z250_251 | z250_251
            ·
              obtain rfl : j = 251 := by omega
              exact am_m251
            ·
              obtain rfl : j = 250 := by omega
              exact am_m250
    ·
      rcases Nat.lt_or_ge 244 j with z240_249 | z240_249
      ·
        rcases Nat.lt_or_ge 247 j with z245_249 | z245_249
        ·
          rcases Nat.lt_or_ge 248 j with z248_249 | z248_249
          ·
            obtain rfl : j = 249 := by omega
            exact am_m249
          ·
            obtain rfl : j = 248 := by omega
            exact am_m248
        ·
          rcases Nat.lt_or_ge 246 j with z245_247 | z245_247
          ·
            obtain rfl : j = 247 := by omega
            exact am_m247
          ·
            rcases Nat.lt_or_ge 245 j with z245_246 | z245_246
            ·
              obtain rfl : j = 246 := by omega
              exact am_m246
            ·
              obtain rfl : j = 245 := by omega
              exact am_m245
      ·
        rcases Nat.lt_or_ge 242 j with z240_244 | z240_244
        ·
          rcases Nat.lt_or_ge 243 j with z243_244 | z243_244
          ·
            obtain rfl : j = 244 := by omega
            exact am_m244
          ·
            obtain rfl : j = 243 := by omega
            exact am_m243
        ·
          rcases Nat.lt_or_ge 241 j with z240_242 | z240_242
          ·
            obtain rfl : j = 242 := by omega
            exact am_m242
          ·
            rcases Nat.lt_or_ge 240 j with z240_241 | z240_241
            ·
              obtain rfl : j = 241 := by omega
              exact am_m241
            ·
              obtain rfl : j = 240 := by omega
              exact am_m240
theorem am_mg280 {j : Nat} (h1 : 280 ≤ j) (h2 : j ≤ 280) : am_okm j := by
  obtain rfl : j = 280 := by omega
  exact am_m280
theorem am_okj {j : Nat} (hj : j < 281) : am_okm j := by
  rcases Nat.lt_or_ge 39 j with z0 | z0
  rotate_left
  · exact am_mg0 (by omega) z0
  rcases Nat.lt_or_ge 79 j with z40 | z40
  rotate_left
  · exact am_mg40 (by omega) z40
  rcases Nat.lt_or_ge 119 j with z80 | z80
  rotate_left
  · exact am_mg80 (by omega) z80
  rcases Nat.lt_or_ge 159 j with z120 | z120
  rotate_left
  · exact am_mg120 (by omega) z120
  rcases Nat.lt_or_ge 199 j with z160 | z160
  rotate_left
  · exact am_mg160 (by omega) z160
  rcases Nat.lt_or_ge 239 j with z200 | z200
  rotate_left
  · exact am_mg200 (by omega) z200
  rcases Nat.lt_or_ge 279 j with z240 | z240
  rotate_left
  · exact am_mg240 (by omega) z240
  exact am_mg280 (by omega) (by omega)
