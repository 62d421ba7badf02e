/-! b9: the law: all cases, the loop -/
section
variable {p : Program} {l : Launch} {e : Env} {s : State} {m : MethodId} {below : List Frame} {meth : Method} {c : Code} {Q : State → Prop} {D : va_G} {cy : Nat → ClassId} {aS b0 L : Nat} {xs : Nat → Int32} {k : Nat} {w : (Nat × Nat × Nat × Nat)} {I Lg : (Nat → Int → Int)}
theorem lc_all (lc4 : ∀ {k : Nat} {w : (Nat × Nat × Nat × Nat)} {I Lg : (Nat → Int → Int)}, lw_fx p s m meth c D cy b0 L xs → k + 5 < L → GG w I Lg → am_okh (mkH w I Lg) → (∀ w I Lg, GG w I Lg → lw_G p l e s m below meth c Q D cy aS b0 k 1805 [] (mkH w I Lg)) → lw_G p l e s m below meth c Q D cy aS b0 k 408 [] (mkH w I Lg)) (F : lw_fx p s m meth c D cy b0 L xs) (hk : k + 5 < L) (hG : GG w I Lg) (hok : am_okh (mkH w I Lg)) (kk : ∀ w I Lg, GG w I Lg → lw_G p l e s m below meth c Q D cy aS b0 k 1805 [] (mkH w I Lg)) : ∀ j, j < 64 → lw_G p l e s m below meth c Q D cy aS b0 k (lw_tg j) [] (mkH w I Lg)
  | 0, _ => lc_0 F hk hG hok kk
  | 1, _ => lc_1 F hk hG hok kk
  | 2, _ => lc_2 F hk hG hok kk
  | 3, _ => lc_3 F hk hG hok kk
  | 4, _ => lc4 F hk hG hok kk
  | 5, _ => lc_5 F hk hG hok kk
  | 6, _ => lc_6 F hk hG hok kk
  | 7, _ => lc_7 F hk hG hok kk
  | 8, _ => lc_8 F hk hG hok kk
  | 9, _ => lc_9 F hk hG hok kk
  | 10, _ => lc_10 F hk hG hok kk
  | 11, _ => lc_11 F hk hG hok kk
  | 12, _ => lc_12 F hk hG hok kk
  | 13, _ => lc_13 F hk hG hok kk
  | 14, _ => lc_14 F hk hG hok kk
  | 15, _ => lc_15 F hk hG hok kk
  | 16, _ => lc_16 F hk hG hok kk
  | 17, _ => lc_17 F hk hG hok kk
  | 18, _ => lc_18 F hk hG hok kk
  | 19, _ => lc_19 F hk hG hok kk
  | 20, _ => lc_20 F hk hG hok kk
  | 21, _ => lc_21 F hk hG hok kk
  | 22, _ => lc_22 F hk hG hok kk
  | 23, _ => lc_23 F hk hG hok kk
  | 24, _ => lc_24 F hk hG hok kk
  | 25, _ => lc_25 F hk hG hok kk
  | 26, _ => lc_26 F hk hG hok kk
  | 27, _ => lc_27 F hk hG hok kk
  | 28, _ => lc_28 F hk hG hok kk
  | 29, _ => lc_29 F hk hG hok kk
  | 30, _ => lc_30 F hk hG hok kk
  | 31, _ => lc_31 F hk hG hok kk
  | 32, _ => lc_32 F hk hG hok kk
  | 33, _ => lc_33 F hk hG hok kk
  | 34, _ => lc_34 F hk hG hok kk
  | 35, _ => lc_35 F hk hG hok kk
  | 36, _ => lc_36 F hk hG hok kk
  | 37, _ => lc_37 F hk hG hok kk
  | 38, _ => lc_38 F hk hG hok kk
  | 39, _ => lc_39 F hk hG hok kk
  | 40, _ => lc_40 F hk hG hok kk
  | 41, _ => lc_41 F hk hG hok kk
  | 42, _ => lc_42 F hk hG hok kk
  | 43, _ => lc_43 F hk hG hok kk
  | 44, _ => lc_44 F hk hG hok kk
  | 45, _ => lc_45 F hk hG hok kk
  | 46, _ => lc_46 F hk hG hok kk
  | 47, _ => lc_47 F hk hG hok kk
  | j + 48, _ => kk w I Lg hG
theorem law_loop (lc4 : ∀ {k : Nat} {w : (Nat × Nat × Nat × Nat)} {I Lg : (Nat → Int → Int)}, lw_fx p s m meth c D cy b0 L xs → k + 5 < L → GG w I Lg → am_okh (mkH w I Lg) → (∀ w I Lg, GG w I Lg → lw_G p l e s m below meth c (lw_Z below #[Value.ref b0] s) D cy aS b0 k 1805 [] (mkH w I Lg)) → lw_G p l e s m below meth c (lw_Z below #[Value.ref b0] s) D cy aS b0 k 408 [] (mkH w I Lg)) (F : lw_fx p s m meth c D cy b0 L xs) : ∀ (n k : Nat) (w : (Nat × Nat × Nat × Nat)) (I Lg : (Nat → Int → Int)), L < k + n → k ≤ L → GG w I Lg → lw_G p l e s m below meth c (lw_Z below #[Value.ref b0] s) D cy aS b0 k 23 [] (mkH w I Lg)
  | 0, k, w, I, Lg, hn, hk0, hG => absurd hn (by omega)
  | n + 1, k, w, I, Lg, hn, hk0, hG => by
    intro ls H locs cells slots P
    have hok := P.2.1
    obtain ⟨hx, hb, hml, hown, hts, hK, hlk, hrt, hnst, hAO, hX, hbl, hL⟩ := id F
    refine lv_iload hx hb dl_23 (lv_at P.1 4 rfl) ?_
    refine lv_aload_n hx hb dl_25 rfl (lv_at P.1 0 rfl) ?_
    refine va_slen (A := fun q => s.heap.size ≤ q) hx hb hX hbl (Nat.not_le.mpr hbl) P.2.2.2.2.1 dl_26 ?_
    refine lv_bipush (v := 6) hx hb dl_27 (by decide) ?_
    refine lv_isub hx hb dl_29 ?_
    have e6 : Int32.ofNat L - 6 = Int32.ofInt ((L : Int) - 6) := by
      rw [show Int32.ofNat L = Int32.ofInt (L : Int) from lx_nI (show L < 2147483648 by omega), show (6 : Int32) = Int32.ofInt 6 from rfl, am_sub, am_w_id (by unfold am_in; omega)]
    rw [e6, lx_nI (show k < 2147483648 by omega)]
    have lt : Int32.ofInt ((L : Int) - 6) < Int32.ofInt (k : Int) ↔ (L : Int) - 6 < k := am_lt0 (by unfold am_in; omega) (by unfold am_in; omega)
    refine lv_icmp_gt (tgt := 1811) hx hb dl_30 (by decide) (fun z => ?_) (fun z => ?_)
    · refine va_forget (fun q hq => P.2.2.2.2.1.2.2 q hq) ?_
      refine lv_iconst (v := 1) hx hb dl_1811 (by decide) ?_
      refine W.widen (k := 601024) (n := 7293034) (by have := P.2.2.2.2.2.2; omega) (by have := P.2.2.2.2.2.2; omega) ?_
      exact lw_ret hx hb hrt hlk dl_1812
    · have hk : k + 5 < L := by
        have : ¬ (L : Int) - 6 < k := fun q => z (lt.mpr q)
        omega
      exact lg_tab F hk (lc_all lc4 F hk hG hok (fun w' I' L' g => lg_back F hk (law_loop lc4 F n (k + 6) w' I' L' (by omega) (by omega) g))) ls H locs cells slots P
end
