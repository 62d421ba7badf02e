theorem am_k194_0 : am_ck 194 0 100 = true := by decide +kernel
theorem am_k194_100 : am_ck 194 100 100 = true := by decide +kernel
theorem am_k194_200 : am_ck 194 200 80 = true := by decide +kernel
theorem am_o194 (pc : Nat) (q : am_E) (h : am_tb 194 pc = some q) : am_oke 194 pc q = true := am_okr_all (n := 279) ((am_okr_app (am_okr_app (am_ck_ok am_k194_0) (am_ck_ok am_k194_100)) (am_ck_ok am_k194_200))) (fun _ => rfl) h
theorem am_k195_0 : am_ck 195 0 41 = true := by decide +kernel
theorem am_o195 (pc : Nat) (q : am_E) (h : am_tb 195 pc = some q) : am_oke 195 pc q = true := am_okr_all (n := 40) (am_ck_ok am_k195_0) (fun _ => rfl) h
theorem am_k196_0 : am_ck 196 0 100 = true := by decide +kernel
theorem am_k196_100 : am_ck 196 100 1 = true := by decide +kernel
theorem am_o196 (pc : Nat) (q : am_E) (h : am_tb 196 pc = some q) : am_oke 196 pc q = true := am_okr_all (n := 100) ((am_okr_app (am_ck_ok am_k196_0) (am_ck_ok am_k196_100))) (fun _ => rfl) h
theorem am_k197_0 : am_ck 197 0 41 = true := by decide +kernel
theorem am_o197 (pc : Nat) (q : am_E) (h : am_tb 197 pc = some q) : am_oke 197 pc q = true := am_okr_all (n := 40) (am_ck_ok am_k197_0) (fun _ => rfl) h
theorem am_k198_0 : am_ck 198 0 100 = true := by decide +kernel
theorem am_k198_100 : am_ck 198 100 14 = true := by decide +kernel
theorem am_o198 (pc : Nat) (q : am_E) (h : am_tb 198 pc = some q) : am_oke 198 pc q = true := am_okr_all (n := 113) ((am_okr_app (am_ck_ok am_k198_0) (am_ck_ok am_k198_100))) (fun _ => rfl) h
theorem am_k199_0 : am_ck 199 0 18 = true := by decide +kernel
theorem am_o199 (pc : Nat) (q : am_E) (h : am_tb 199 pc = some q) : am_oke 199 pc q = true := am_okr_all (n := 17) (am_ck_ok am_k199_0) (fun _ => rfl) h
theorem am_k200_0 : am_ck 200 0 18 = true := by decide +kernel
theorem am_o200 (pc : Nat) (q : am_E) (h : am_tb 200 pc = some q) : am_oke 200 pc q = true := am_okr_all (n := 17) (am_ck_ok am_k200_0) (fun _ => rfl) h
theorem am_k201_0 : am_ck 201 0 15 = true := by decide +kernel
theorem am_o201 (pc : Nat) (q : am_E) (h : am_tb 201 pc = some q) : am_oke 201 pc q = true := am_okr_all (n := 14) (am_ck_ok am_k201_0) (fun _ => rfl) h
theorem am_k202_0 : am_ck 202 0 11 = true := by decide +kernel
theorem am_o202 (pc : Nat) (q : am_E) (h : am_tb 202 pc = some q) : am_oke 202 pc q = true := am_okr_all (n := 10) (am_ck_ok am_k202_0) (fun _ => rfl) h
theorem am_k203_0 : am_ck 203 0 20 = true := by decide +kernel
theorem am_o203 (pc : Nat) (q : am_E) (h : am_tb 203 pc = some q) : am_oke 203 pc q = true := am_okr_all (n := 19) (am_ck_ok am_k203_0) (fun _ => rfl) h
theorem am_k204_0 : am_ck 204 0 16 = true := by decide +kernel
theorem am_o204 (pc : Nat) (q : am_E) (h : am_tb 204 pc = some q) : am_oke 204 pc q = true := am_okr_all (n := 15) (am_ck_ok am_k204_0) (fun _ => rfl) h
theorem am_k205_0 : am_ck 205 0 19 = true := by decide +kernel
theorem am_o205 (pc : Nat) (q : am_E) (h : am_tb 205 pc = some q) : am_oke 205 pc q = true := am_okr_all (n := 18) (am_ck_ok am_k205_0) (fun _ => rfl) h
theorem am_k206_0 : am_ck 206 0 22 = true := by decide +kernel
theorem am_o206 (pc : Nat) (q : am_E) (h : am_tb 206 pc = some q) : am_oke 206 pc q = true := am_okr_all (n := 21) (am_ck_ok am_k206_0) (fun _ => rfl) h
theorem am_k207_0 : am_ck 207 0 96 = true := by decide +kernel
theorem am_o207 (pc : Nat) (q : am_E) (h : am_tb 207 pc = some q) : am_oke 207 pc q = true := am_okr_all (n := 95) (am_ck_ok am_k207_0) (fun _ => rfl) h
theorem am_k208_0 : am_ck 208 0 64 = true := by decide +kernel
theorem am_o208 (pc : Nat) (q : am_E) (h : am_tb 208 pc = some q) : am_oke 208 pc q = true := am_okr_all (n := 63) (am_ck_ok am_k208_0) (fun _ => rfl) h
theorem am_k209_0 : am_ck 209 0 54 = true := by decide +kernel
theorem am_o209 (pc : Nat) (q : am_E) (h : am_tb 209 pc = some q) : am_oke 209 pc q = true := am_okr_all (n := 53) (am_ck_ok am_k209_0) (fun _ => rfl) h
theorem am_k210_0 : am_ck 210 0 44 = true := by decide +kernel
theorem am_o210 (pc : Nat) (q : am_E) (h : am_tb 210 pc = some q) : am_oke 210 pc q = true := am_okr_all (n := 43) (am_ck_ok am_k210_0) (fun _ => rfl) h
theorem am_k211_0 : am_ck 211 0 29 = true := by decide +kernel
theorem am_o211 (pc : Nat) (q : am_E) (h : am_tb 211 pc = some q) : am_oke 211 pc q = true := am_okr_all (n := 28) (am_ck_ok am_k211_0) (fun _ => rfl) h
theorem am_k212_0 : am_ck 212 0 33 = true := by decide +kernel
theorem am_o212 (pc : Nat) (q : am_E) (h : am_tb 212 pc = some q) : am_oke 212 pc q = true := am_okr_all (n := 32) (am_ck_ok am_k212_0) (fun _ => rfl) h
theorem am_k213_0 : am_ck 213 0 58 = true := by decide +kernel
theorem am_o213 (pc : Nat) (q : am_E) (h : am_tb 213 pc = some q) : am_oke 213 pc q = true := am_okr_all (n := 57) (am_ck_ok am_k213_0) (fun _ => rfl) h
theorem am_k214_0 : am_ck 214 0 48 = true := by decide +kernel
theorem am_o214 (pc : Nat) (q : am_E) (h : am_tb 214 pc = some q) : am_oke 214 pc q = true := am_okr_all (n := 47) (am_ck_ok am_k214_0) (fun _ => rfl) h
theorem am_k215_0 : am_ck 215 0 100 = true := by decide +kernel
theorem am_k215_100 : am_ck 215 100 48 = true := by decide +kernel
theorem am_o215 (pc : Nat) (q : am_E) (h : am_tb 215 pc = some q) : am_oke 215 pc q = true := am_okr_all (n := 147) ((am_okr_app (am_ck_ok am_k215_0) (am_ck_ok am_k215_100))) (fun _ => rfl) h
theorem am_k216_0 : am_ck 216 0 100 = true := by decide +kernel
theorem am_k216_100 : am_ck 216 100 7 = true := by decide +kernel
theorem am_o216 (pc : Nat) (q : am_E) (h : am_tb 216 pc = some q) : am_oke 216 pc q = true := am_okr_all (n := 106) ((am_okr_app (am_ck_ok am_k216_0) (am_ck_ok am_k216_100))) (fun _ => rfl) h
theorem am_k217_0 : am_ck 217 0 100 = true := by decide +kernel
theorem am_k217_100 : am_ck 217 100 76 = true := by decide +kernel
theorem am_o217 (pc : Nat) (q : am_E) (h : am_tb 217 pc = some q) : am_oke 217 pc q = true := am_okr_all (n := 175) ((am_okr_app (am_ck_ok am_k217_0) (am_ck_ok am_k217_100))) (fun _ => rfl) h
theorem am_k218_0 : am_ck 218 0 19 = true := by decide +kernel
theorem am_o218 (pc : Nat) (q : am_E) (h : am_tb 218 pc = some q) : am_oke 218 pc q = true := am_okr_all (n := 18) (am_ck_ok am_k218_0) (fun _ => rfl) h
theorem am_k219_0 : am_ck 219 0 46 = true := by decide +kernel
theorem am_o219 (pc : Nat) (q : am_E) (h : am_tb 219 pc = some q) : am_oke 219 pc q = true := am_okr_all (n := 45) (am_ck_ok am_k219_0) (fun _ => rfl) h
theorem am_k220_0 : am_ck 220 0 33 = true := by decide +kernel
theorem am_o220 (pc : Nat) (q : am_E) (h : am_tb 220 pc = some q) : am_oke 220 pc q = true := am_okr_all (n := 32) (am_ck_ok am_k220_0) (fun _ => rfl) h
theorem am_k221_0 : am_ck 221 0 7 = true := by decide +kernel
theorem am_o221 (pc : Nat) (q : am_E) (h : am_tb 221 pc = some q) : am_oke 221 pc q = true := am_okr_all (n := 6) (am_ck_ok am_k221_0) (fun _ => rfl) h
theorem am_k222_0 : am_ck 222 0 47 = true := by decide +kernel
theorem am_o222 (pc : Nat) (q : am_E) (h : am_tb 222 pc = some q) : am_oke 222 pc q = true := am_okr_all (n := 46) (am_ck_ok am_k222_0) (fun _ => rfl) h
theorem am_k223_0 : am_ck 223 0 58 = true := by decide +kernel
theorem am_o223 (pc : Nat) (q : am_E) (h : am_tb 223 pc = some q) : am_oke 223 pc q = true := am_okr_all (n := 57) (am_ck_ok am_k223_0) (fun _ => rfl) h
theorem am_k224_0 : am_ck 224 0 80 = true := by decide +kernel
theorem am_o224 (pc : Nat) (q : am_E) (h : am_tb 224 pc = some q) : am_oke 224 pc q = true := am_okr_all (n := 79) (am_ck_ok am_k224_0) (fun _ => rfl) h
theorem am_k225_0 : am_ck 225 0 82 = true := by decide +kernel
theorem am_o225 (pc : Nat) (q : am_E) (h : am_tb 225 pc = some q) : am_oke 225 pc q = true := am_okr_all (n := 81) (am_ck_ok am_k225_0) (fun _ => rfl) h
theorem am_k226_0 : am_ck 226 0 63 = true := by decide +kernel
theorem am_o226 (pc : Nat) (q : am_E) (h : am_tb 226 pc = some q) : am_oke 226 pc q = true := am_okr_all (n := 62) (am_ck_ok am_k226_0) (fun _ => rfl) h
theorem am_k227_0 : am_ck 227 0 15 = true := by decide +kernel
theorem am_o227 (pc : Nat) (q : am_E) (h : am_tb 227 pc = some q) : am_oke 227 pc q = true := am_okr_all (n := 14) (am_ck_ok am_k227_0) (fun _ => rfl) h
theorem am_k228_0 : am_ck 228 0 100 = true := by decide +kernel
theorem am_k228_100 : am_ck 228 100 18 = true := by decide +kernel
theorem am_o228 (pc : Nat) (q : am_E) (h : am_tb 228 pc = some q) : am_oke 228 pc q = true := am_okr_all (n := 117) ((am_okr_app (am_ck_ok am_k228_0) (am_ck_ok am_k228_100))) (fun _ => rfl) h
theorem am_k229_0 : am_ck 229 0 77 = true := by decide +kernel
theorem am_o229 (pc : Nat) (q : am_E) (h : am_tb 229 pc = some q) : am_oke 229 pc q = true := am_okr_all (n := 76) (am_ck_ok am_k229_0) (fun _ => rfl) h
theorem am_k230_0 : am_ck 230 0 56 = true := by decide +kernel
theorem am_o230 (pc : Nat) (q : am_E) (h : am_tb 230 pc = some q) : am_oke 230 pc q = true := am_okr_all (n := 55) (am_ck_ok am_k230_0) (fun _ => rfl) h
theorem am_k231_0 : am_ck 231 0 68 = true := by decide +kernel
theorem am_o231 (pc : Nat) (q : am_E) (h : am_tb 231 pc = some q) : am_oke 231 pc q = true := am_okr_all (n := 67) (am_ck_ok am_k231_0) (fun _ => rfl) h
theorem am_k232_0 : am_ck 232 0 87 = true := by decide +kernel
theorem am_o232 (pc : Nat) (q : am_E) (h : am_tb 232 pc = some q) : am_oke 232 pc q = true := am_okr_all (n := 86) (am_ck_ok am_k232_0) (fun _ => rfl) h
theorem am_k233_0 : am_ck 233 0 100 = true := by decide +kernel
theorem am_k233_100 : am_ck 233 100 38 = true := by decide +kernel
theorem am_o233 (pc : Nat) (q : am_E) (h : am_tb 233 pc = some q) : am_oke 233 pc q = true := am_okr_all (n := 137) ((am_okr_app (am_ck_ok am_k233_0) (am_ck_ok am_k233_100))) (fun _ => rfl) h
theorem am_k234_0 : am_ck 234 0 38 = true := by decide +kernel
theorem am_o234 (pc : Nat) (q : am_E) (h : am_tb 234 pc = some q) : am_oke 234 pc q = true := am_okr_all (n := 37) (am_ck_ok am_k234_0) (fun _ => rfl) h
theorem am_k235_0 : am_ck 235 0 11 = true := by decide +kernel
theorem am_o235 (pc : Nat) (q : am_E) (h : am_tb 235 pc = some q) : am_oke 235 pc q = true := am_okr_all (n := 10) (am_ck_ok am_k235_0) (fun _ => rfl) h
theorem am_k236_0 : am_ck 236 0 11 = true := by decide +kernel
theorem am_o236 (pc : Nat) (q : am_E) (h : am_tb 236 pc = some q) : am_oke 236 pc q = true := am_okr_all (n := 10) (am_ck_ok am_k236_0) (fun _ => rfl) h
theorem am_k237_0 : am_ck 237 0 95 = true := by decide +kernel
theorem am_o237 (pc : Nat) (q : am_E) (h : am_tb 237 pc = some q) : am_oke 237 pc q = true := am_okr_all (n := 94) (am_ck_ok am_k237_0) (fun _ => rfl) h
theorem am_k238_0 : am_ck 238 0 100 = true := by decide +kernel
theorem am_k238_100 : am_ck 238 100 100 = true := by decide +kernel
theorem am_k238_200 : am_ck 238 200 100 = true := by decide +kernel
theorem am_k238_300 : am_ck 238 300 36 = true := by decide +kernel
theorem am_o238 (pc : Nat) (q : am_E) (h : am_tb 238 pc = some q) : am_oke 238 pc q = true := am_okr_all (n := 335) ((am_okr_app (am_okr_app (am_okr_app (am_ck_ok am_k238_0) (am_ck_ok am_k238_100)) (am_ck_ok am_k238_200)) (am_ck_ok am_k238_300))) (fun _ => rfl) h
theorem am_k239_0 : am_ck 239 0 25 = true := by decide +kernel
theorem am_o239 (pc : Nat) (q : am_E) (h : am_tb 239 pc = some q) : am_oke 239 pc q = true := am_okr_all (n := 24) (am_ck_ok am_k239_0) (fun _ => rfl) h
theorem am_k240_0 : am_ck 240 0 25 = true := by decide +kernel
theorem am_o240 (pc : Nat) (q : am_E) (h : am_tb 240 pc = some q) : am_oke 240 pc q = true := am_okr_all (n := 24) (am_ck_ok am_k240_0) (fun _ => rfl) h
theorem am_k241_0 : am_ck 241 0 32 = true := by decide +kernel
theorem am_o241 (pc : Nat) (q : am_E) (h : am_tb 241 pc = some q) : am_oke 241 pc q = true := am_okr_all (n := 31) (am_ck_ok am_k241_0) (fun _ => rfl) h
theorem am_k242_0 : am_ck 242 0 100 = true := by decide +kernel
theorem am_k242_100 : am_ck 242 100 33 = true := by decide +kernel
theorem am_o242 (pc : Nat) (q : am_E) (h : am_tb 242 pc = some q) : am_oke 242 pc q = true := am_okr_all (n := 132) ((am_okr_app (am_ck_ok am_k242_0) (am_ck_ok am_k242_100))) (fun _ => rfl) h
theorem am_k243_0 : am_ck 243 0 100 = true := by decide +kernel
theorem am_k243_100 : am_ck 243 100 96 = true := by decide +kernel
theorem am_o243 (pc : Nat) (q : am_E) (h : am_tb 243 pc = some q) : am_oke 243 pc q = true := am_okr_all (n := 195) ((am_okr_app (am_ck_ok am_k243_0) (am_ck_ok am_k243_100))) (fun _ => rfl) h
theorem am_k244_0 : am_ck 244 0 66 = true := by decide +kernel
theorem am_o244 (pc : Nat) (q : am_E) (h : am_tb 244 pc = some q) : am_oke 244 pc q = true := am_okr_all (n := 65) (am_ck_ok am_k244_0) (fun _ => rfl) h
theorem am_k245_0 : am_ck 245 0 53 = true := by decide +kernel
theorem am_o245 (pc : Nat) (q : am_E) (h : am_tb 245 pc = some q) : am_oke 245 pc q = true := am_okr_all (n := 52) (am_ck_ok am_k245_0) (fun _ => rfl) h
theorem am_k246_0 : am_ck 246 0 69 = true := by decide +kernel
theorem am_o246 (pc : Nat) (q : am_E) (h : am_tb 246 pc = some q) : am_oke 246 pc q = true := am_okr_all (n := 68) (am_ck_ok am_k246_0) (fun _ => rfl) h
theorem am_k247_0 : am_ck 247 0 99 = true := by decide +kernel
theorem am_o247 (pc : Nat) (q : am_E) (h : am_tb 247 pc = some q) : am_oke 247 pc q = true := am_okr_all (n := 98) (am_ck_ok am_k247_0) (fun _ => rfl) h
theorem am_k248_0 : am_ck 248 0 80 = true := by decide +kernel
theorem am_o248 (pc : Nat) (q : am_E) (h : am_tb 248 pc = some q) : am_oke 248 pc q = true := am_okr_all (n := 79) (am_ck_ok am_k248_0) (fun _ => rfl) h
theorem am_k249_0 : am_ck 249 0 100 = true := by decide +kernel
theorem am_k249_100 : am_ck 249 100 6 = true := by decide +kernel
theorem am_o249 (pc : Nat) (q : am_E) (h : am_tb 249 pc = some q) : am_oke 249 pc q = true := am_okr_all (n := 105) ((am_okr_app (am_ck_ok am_k249_0) (am_ck_ok am_k249_100))) (fun _ => rfl) h
theorem am_k250_0 : am_ck 250 0 11 = true := by decide +kernel
theorem am_o250 (pc : Nat) (q : am_E) (h : am_tb 250 pc = some q) : am_oke 250 pc q = true := am_okr_all (n := 10) (am_ck_ok am_k250_0) (fun _ => rfl) h
theorem am_k251_0 : am_ck 251 0 19 = true := by decide +kernel
theorem am_o251 (pc : Nat) (q : am_E) (h : am_tb 251 pc = some q) : am_oke 251 pc q = true := am_okr_all (n := 18) (am_ck_ok am_k251_0) (fun _ => rfl) h
theorem am_k252_0 : am_ck 252 0 34 = true := by decide +kernel
theorem am_o252 (pc : Nat) (q : am_E) (h : am_tb 252 pc = some q) : am_oke 252 pc q = true := am_okr_all (n := 33) (am_ck_ok am_k252_0) (fun _ => rfl) h
theorem am_k253_0 : am_ck 253 0 100 = true := by decide +kernel
theorem am_k253_100 : am_ck 253 100 4 = true := by decide +kernel
theorem am_o253 (pc : Nat) (q : am_E) (h : am_tb 253 pc = some q) : am_oke 253 pc q = true := am_okr_all (n := 103) ((am_okr_app (am_ck_ok am_k253_0) (am_ck_ok am_k253_100))) (fun _ => rfl) h
theorem am_k254_0 : am_ck 254 0 40 = true := by decide +kernel
theorem am_o254 (pc : Nat) (q : am_E) (h : am_tb 254 pc = some q) : am_oke 254 pc q = true := am_okr_all (n := 39) (am_ck_ok am_k254_0) (fun _ => rfl) h
theorem am_k255_0 : am_ck 255 0 100 = true := by decide +kernel
theorem am_k255_100 : am_ck 255 100 94 = true := by decide +kernel
theorem am_o255 (pc : Nat) (q : am_E) (h : am_tb 255 pc = some q) : am_oke 255 pc q = true := am_okr_all (n := 193) ((am_okr_app (am_ck_ok am_k255_0) (am_ck_ok am_k255_100))) (fun _ => rfl) h
theorem am_k256_0 : am_ck 256 0 57 = true := by decide +kernel
theorem am_o256 (pc : Nat) (q : am_E) (h : am_tb 256 pc = some q) : am_oke 256 pc q = true := am_okr_all (n := 56) (am_ck_ok am_k256_0) (fun _ => rfl) h
theorem am_k257_0 : am_ck 257 0 95 = true := by decide +kernel
theorem am_o257 (pc : Nat) (q : am_E) (h : am_tb 257 pc = some q) : am_oke 257 pc q = true := am_okr_all (n := 94) (am_ck_ok am_k257_0) (fun _ => rfl) h
theorem am_k258_0 : am_ck 258 0 86 = true := by decide +kernel
theorem am_o258 (pc : Nat) (q : am_E) (h : am_tb 258 pc = some q) : am_oke 258 pc q = true := am_okr_all (n := 85) (am_ck_ok am_k258_0) (fun _ => rfl) h
theorem am_k259_0 : am_ck 259 0 97 = true := by decide +kernel
theorem am_o259 (pc : Nat) (q : am_E) (h : am_tb 259 pc = some q) : am_oke 259 pc q = true := am_okr_all (n := 96) (am_ck_ok am_k259_0) (fun _ => rfl) h
theorem am_k260_0 : am_ck 260 0 86 = true := by decide +kernel
theorem am_o260 (pc : Nat) (q : am_E) (h : am_tb 260 pc = some q) : am_oke 260 pc q = true := am_okr_all (n := 85) (am_ck_ok am_k260_0) (fun _ => rfl) h
theorem am_k261_0 : am_ck 261 0 48 = true := by decide +kernel
theorem am_o261 (pc : Nat) (q : am_E) (h : am_tb 261 pc = some q) : am_oke 261 pc q = true := am_okr_all (n := 47) (am_ck_ok am_k261_0) (fun _ => rfl) h
theorem am_k262_0 : am_ck 262 0 57 = true := by decide +kernel
theorem am_o262 (pc : Nat) (q : am_E) (h : am_tb 262 pc = some q) : am_oke 262 pc q = true := am_okr_all (n := 56) (am_ck_ok am_k262_0) (fun _ => rfl) h
theorem am_k263_0 : am_ck 263 0 31 = true := by decide +kernel
theorem am_o263 (pc : Nat) (q : am_E) (h : am_tb 263 pc = some q) : am_oke 263 pc q = true := am_okr_all (n := 30) (am_ck_ok am_k263_0) (fun _ => rfl) h
theorem am_k264_0 : am_ck 264 0 26 = true := by decide +kernel
theorem am_o264 (pc : Nat) (q : am_E) (h : am_tb 264 pc = some q) : am_oke 264 pc q = true := am_okr_all (n := 25) (am_ck_ok am_k264_0) (fun _ => rfl) h
theorem am_k265_0 : am_ck 265 0 19 = true := by decide +kernel
theorem am_o265 (pc : Nat) (q : am_E) (h : am_tb 265 pc = some q) : am_oke 265 pc q = true := am_okr_all (n := 18) (am_ck_ok am_k265_0) (fun _ => rfl) h
theorem am_k266_0 : am_ck 266 0 78 = true := by decide +kernel
theorem am_o266 (pc : Nat) (q : am_E) (h : am_tb 266 pc = some q) : am_oke 266 pc q = true := am_okr_all (n := 77) (am_ck_ok am_k266_0) (fun _ => rfl) h
