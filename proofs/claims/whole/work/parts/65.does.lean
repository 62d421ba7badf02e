/-! 65: does, give, exchange -/
def Pc (σ : (Nat → Int → Int)) (u : Nat) (k : Int) (I I' : (Nat → Int → Int)) : Prop := I' 90 0 = ((u - uSh u + 1 : Nat) : Int) ∧ (∀ (i : Nat) (c : Int), i < u - uSh u → 0 ≤ c → c < 5 → I' 91 (5 * (i : Int) + c) = I 91 (5 * ((i + uSh u : Nat) : Int) + c)) ∧ (I' 91 (5 * ((u - uSh u : Nat) : Int)) = k ∧ (0 ≤ k → I' 91 (5 * ((u - uSh u : Nat) : Int) + 1) = σ 1 (2 * k) ∧ I' 91 (5 * ((u - uSh u : Nat) : Int) + 2) = σ 1 (2 * k + 1)) ∧ I' 91 (5 * ((u - uSh u : Nat) : Int) + 3) = σ 2 0 ∧ I' 91 (5 * ((u - uSh u : Nat) : Int) + 4) = σ 2 1)
def Pm (σ : (Nat → Int → Int)) (u : Nat) (I I' : (Nat → Int → Int)) : Prop := I' 99 74 = ((u - uSh u + 1 : Nat) : Int) ∧ (∀ (i : Nat) (c : Int), i < u - uSh u → 0 ≤ c → c < 14 → I' 136 (14 * (i : Int) + c) = I 136 (14 * ((i + uSh u : Nat) : Int) + c)) ∧ ((∀ j, 0 ≤ j → j < 12 → I' 136 (14 * ((u - uSh u : Nat) : Int) + j) = σ 1 j) ∧ I' 136 (14 * ((u - uSh u : Nat) : Int) + 12) = σ 2 0 ∧ I' 136 (14 * ((u - uSh u : Nat) : Int) + 13) = σ 2 1)
theorem GL0.push {V σ σ' I I' : (Nat → Int → Int)} {u : Nat} {k : Int} (h : GL0 V u σ I) (hc : Pc σ u k I I') (hm : Pm σ u I I') (hk : -1 ≤ k ∧ k < V 0 0) (wS : WS 9000 σ) (hs : ∀ j, 0 ≤ j → j < 12 → ¬ (0 ≤ k ∧ (j = 2 * k ∨ j = 2 * k + 1)) → σ' 1 j = σ 1 j) : GL0 V (u - uSh u + 1) σ' I' := by
  obtain ⟨h20, h1, h2, h3⟩ := h
  have hb := uSh_b h20
  refine ⟨by omega, hc.1, hm.1, fun i hi => ?_⟩
  by_cases e : i < u - uSh u
  · have o := h3 (i + uSh u) (by omega)
    have r0 := hc.2.1 i 0 e (by omega) (by omega)
    rw [Int.add_zero, Int.add_zero] at r0
    have r1 := hc.2.1 i 1 e (by omega) (by omega)
    have r2 := hc.2.1 i 2 e (by omega) (by omega)
    have r3 := hc.2.1 i 3 e (by omega) (by omega)
    have r4 := hc.2.1 i 4 e (by omega) (by omega)
    have m := fun j x y => hm.2.1 i j e x y
    have nx : ∀ j, 0 ≤ j → j < 12 → uNx (u - uSh u + 1) σ' I' i j = uNx u σ I (i + uSh u) j := by
      intro j j0 j1
      unfold uNx
      rw [if_pos (by omega)]
      by_cases e2 : i + 1 < u - uSh u
      · rw [if_pos (by omega)]
        have := hm.2.1 (i + 1) j e2 j0 (by omega)
        rw [show ((i + 1 : Nat) : Int) = (i : Int) + 1 by omega] at this
        rw [this]; congr 1; omega
      · rw [if_neg (by omega)]
        have e3 : u - uSh u = i + 1 := by omega
        have := hm.2.2.1 j j0 j1
        rw [e3, show ((i + 1 : Nat) : Int) = (i : Int) + 1 by omega] at this
        exact this
    rw [r0, r1, r2, r3, r4, m 12 (by omega) (by omega), m 13 (by omega) (by omega)]
    refine ⟨o.1, fun j j0 j1 => ?_, o.2.2⟩
    rw [m j j0 (by omega), nx j j0 j1]
    exact o.2.1 j j0 j1
  · have ei : i = u - uSh u := by omega
    subst ei
    obtain ⟨t0, t1, t2, t3⟩ := hc.2.2
    obtain ⟨m0, m1, m2⟩ := hm.2.2
    rw [t0]
    refine ⟨hk, fun j j0 j1 => ⟨?_, ?_⟩, ⟨m1.trans t2.symm, m2.trans t3.symm⟩, ?_, ?_⟩
    · rw [m0 j j0 j1]; unfold uNx; rw [if_neg (show ¬ (u - uSh u) + 1 < u - uSh u + 1 by omega)]
      by_cases ck : 0 ≤ k ∧ j = 2 * k
      · rw [if_pos ck, (t1 ck.1).1, ck.2]
      · rw [if_neg ck]
        by_cases ck2 : 0 ≤ k ∧ j = 2 * k + 1
        · rw [if_pos ck2, (t1 ck2.1).2, ck2.2]
        · rw [if_neg ck2]; exact (hs j j0 j1 (by omega)).symm
    · rw [m0 j j0 j1]; exact wS.1 j j0 j1
    · rw [t2]; exact wS.2.1 0 (by omega) (by omega)
    · rw [t3]; exact wS.2.1 1 (by omega) (by omega)
/-- what stays when the state is new -/
def KF (I I' : (Nat → Int → Int)) : Prop := (∀ a, (a ≤ 50 ∨ (59 ≤ a ∧ a ≤ 62) ∨ (92 ≤ a ∧ a ≤ 97) ∨ (100 ≤ a ∧ a ≤ 122) ∨ a = 134 ∨ a = 137 ∨ a = 138) → I' a = I a) ∧ ∀ j, (j = 1 ∨ j = 4 ∨ j = 5 ∨ (12 ≤ j ∧ j ≤ 15) ∨ j = 70 ∨ j = 71 ∨ j = 76) → I' 99 j = I 99 j
theorem KF.tr {I I' I'' : (Nat → Int → Int)} (h : KF I I') (h' : KF I' I'') : KF I I'' := ⟨fun a x => (h'.1 a x).trans (h.1 a x), fun j x => (h'.2 j x).trans (h.2 j x)⟩
theorem GR0.nw {V : (Nat → Int → Int)} {lw : (Int → (Int → Int) → Int)} {σ σ' : (Nat → Int → Int)} {n f g : Int} {w w' : (Nat × Nat × Nat × Nat)} {I L I' L' : (Nat → Int → Int)} (h : GR0 V lw σ n f g w I L) (hL : GLe V σ' I') (rS : RS I' 51 σ') (mS : MS I' L' 0 σ') (wS : WS 9000 σ') (ny : NY V σ') (dn : DN V σ') (ct : CT I' 51 (V 0 2).toNat) (hp : GPl V lw σ' I') (hf : KF I I') (hl : L' 99 79 = L 99 79) (hw : w'.1 = w.1 ∧ w'.2.1 = w.2.1) : GR0 V lw σ' n f g w' I' L' := by
  obtain ⟨a1, a2, a3, a4, a5, a6, a7, a8, a9, a10⟩ := h
  obtain ⟨hf, hg⟩ := hf
  obtain ⟨⟨b1, b2, b3, b4, b5, b6⟩, -⟩ := a1
  have hle := isW_le b1
  have e0 : I' 0 = I 0 := hf 0 (by omega)
  refine ⟨⟨⟨?_, ?_, ?_, b4, b5.fr (fun a _ _ => hf a (by omega)) (fun j _ _ => hg j (by omega)), b6.fr (fun a _ _ => hf a (by omega))⟩, rS, mS, wS, ny, ct⟩, dn, ?_, ?_, ?_, ?_, hL, ?_, hp, ?_⟩
  · rw [hw.1]; exact b1
  · rw [hw.1]; exact b2.fr (fun q _ x => hf q (by omega))
  · rw [hw.1]; exact b3.fr (fun q _ x => hf q (by omega))
  · unfold wPr at a3 ⊢; rw [hw.1, hw.2]; exact a3
  · exact a4.fr (by rw [e0]) (hg 1 (by omega)) (hf 1 (by omega)) (hf 100 (by omega))
  · unfold GF at a5 ⊢; rw [e0, hg 4 (by omega), hg 5 (by omega)]; exact a5
  · exact a6.fr (by rw [e0]) (hg 76 (by omega)) (fun a x y => hf a (by omega)) (hf 137 (by omega)) (hf 138 (by omega)) hl
  · obtain ⟨T, m, kb, c1, c2, c3⟩ := a8
    exact ⟨T, m, kb, c1.fr (fun a x y => hf a (by omega)), c2.fr (hg 70 (by omega)) (hg 71 (by omega)) (hf 134 (by omega)), c3⟩
  · unfold GX at a10 ⊢; rw [hf 49 (by omega), hf 101 (by omega)]; exact a10
theorem s106 {d : Nat} {w : Nat × Nat × Nat × Nat} {I L : Nat → Int → Int} {σ : (Nat → Int → Int)} {u : Nat} {k D : Int} (rS : RS I 51 σ) (wS : WS D σ) (hu : I 90 0 = u) (h20 : u ≤ 20) (hk : -1 ≤ k ∧ k < 6) {Q : Option am_V → am_H → Prop} (q : ∀ I', Pc σ u k I I' → I' 64 0 = 0 → Fr (fun a => a = 90 ∨ a = 91 ∨ a = 64) I I' → Q none (mkH w I' L)) : am_Sp (d + 2) 106 [vR (some 0), vI k] (mkH w I L) Q := by
  rw [S106]
  simp (disch := omega) only [KX, KG, GA, GR, GRc, GO, GI, GL, GV, am_w_i, am_ga, am_it, am_if, true_and, and_true, or_true, true_or, ne_eq, not_false_eq_true, not_true_eq_false, false_imp_iff, true_imp_iff, Int.reduceEq, Int.reduceLT, Int.reduceLE, Int.reduceAdd, Int.reduceSub, Int.reduceMul, Int.reduceNeg]
  refine s19 rS wS hu h20 hk (fun I1 h1 h2 h3 h4 => ?_)
  simp (disch := omega) only [KX, KP, KN, GA, GR, GRc, GO, GI, GL, GV, am_w_i, am_ga, am_it, am_if, true_and, and_true, or_true, true_or, ne_eq, not_false_eq_true, not_true_eq_false, false_imp_iff, true_imp_iff, Int.reduceEq, Int.reduceLT, Int.reduceLE, Int.reduceAdd, Int.reduceSub, Int.reduceMul, Int.reduceNeg]
  refine q _ ?_ (am_up_s _ _ _ _) (fun x hx => ?_)
  · unfold Pc; rw [am_up_a _ _ _ _ (by decide), am_up_a _ _ _ _ (by decide)]; exact ⟨h1, h2, h3⟩
  · rw [am_up_a _ _ _ _ (by omega)]; exact h4 x (by omega)
theorem s214' {d : Nat} {w : Nat × Nat × Nat × Nat} {I L : Nat → Int → Int} {V σ : (Nat → Int → Int)} {t e D : Int} (hM : MW I V) (hV : WV V) (hR : MS I L 0 σ) (hW : WS D σ) (ht : 0 ≤ t ∧ t < 2) (h0 : 0 ≤ e) (h1 : e < V 0 1) {Q : Option am_V → am_H → Prop} (q : ∀ I', MS I' L 0 (px_add V σ t e) → MFr 0 I I' → (∀ a, a ≠ 127 → I' a = I a) → Q none (mkH w I' L)) : am_Sp (d + 1) 214 [vR (some 99), vI 0, vI t, vI e] (mkH w I L) Q := by
  have h6 := hV.1.1.2
  have h8 := hV.1.2.1.2
  have v := hM.2.2.1 e h0 h1
  have wv := hV.2.2.1 e h0 h1
  have r := hR.1 (2 * V 6 e + t) (by omega) (by omega)
  have bA := hW.1 (2 * V 6 e + t) (by omega) (by omega)
  have ea : 12 * 0 + 2 * V 6 e + t = 12 * 0 + (2 * V 6 e + t) := by omega
  have z := q _ hR.u1 (MFr.u1 (by omega)) (fun a ha => am_up_a _ _ _ _ ha)
  rw [S214]
  simp only [Int.mul_zero, Int.zero_add, Int.zero_mul] at r z ea
  simp (disch := omega) only [Kk, Kw, Ks, v.2.1, v.2.2.1, r, s203 (a := -999) (b := 999), Int.mul_zero, Int.zero_add, Int.zero_mul, GA, GR, GRc, GO, GI, GL, GV, am_w_i, am_ga, am_it, am_if, true_and, and_true, or_true, true_or, ne_eq, not_false_eq_true, not_true_eq_false, false_imp_iff, true_imp_iff, Int.reduceEq, Int.reduceLT, Int.reduceLE, Int.reduceAdd, Int.reduceSub, Int.reduceMul, Int.reduceNeg]
  exact z
theorem px_n3 {V σ σ' : (Nat → Int → Int)} (h : NY V σ) (h0 : σ' 0 3 = σ 0 3) (h3 : σ' 3 = σ 3) : NY V σ' := by unfold NY at h ⊢; rw [h0, h3]; exact h
theorem px_d3' {V σ σ' : (Nat → Int → Int)} (h : DN V σ) (h0 : σ' 0 3 = σ 0 3) (h3 : σ' 3 = σ 3) : DN V σ' := by unfold DN at h ⊢; rw [h0, h3]; exact h
/-- behind a push: class changed at 52 53, reference at 127 128 -/
theorem GR0.ps {V : (Nat → Int → Int)} {lw : (Int → (Int → Int) → Int)} {σ σ' : (Nat → Int → Int)} {n f g k : Int} {u : Nat} {w : (Nat × Nat × Nat × Nat)} {I L I1 J I2 I3 : (Nat → Int → Int)} (G : GR0 V lw σ n f g w I L) (hl : GL0 V u σ I) (hk : -1 ≤ k ∧ k < V 0 0) (hs : ∀ j, 0 ≤ j → j < 12 → ¬ (0 ≤ k ∧ (j = 2 * k ∨ j = 2 * k + 1)) → σ' 1 j = σ 1 j) (h0 : σ' 0 = σ 0) (h3 : σ' 3 = σ 3) (wS : WS 9000 σ') (c1 : Pc σ u k I I1) (c2 : I1 64 0 = 0) (c3 : Fr (fun a => a = 90 ∨ a = 91 ∨ a = 64) I I1) (c4 : Fr (fun a => a = 52 ∨ a = 53) I1 J) (rS : RS J 51 σ') (m1 : Pm σ u (am_up J 99 2 0) I2) (m2 : ∀ a, a ≠ 99 → a ≠ 136 → I2 a = am_up J 99 2 0 a) (m3 : ∀ j, j ≠ 74 → I2 99 j = am_up J 99 2 0 99 j) (m4 : Fr (fun a => a = 127 ∨ a = 128) I2 I3) (mS : MS I3 L 0 σ') : GR0 V lw σ' n f g w I3 L := by
  have e : ∀ a, a ≠ 99 → a ≠ 136 → a ≠ 127 → a ≠ 128 → I3 a = J a := fun a x1 x2 x3 x4 => by rw [m4 a (by omega), m2 a x1 x2, am_up_a _ _ _ _ x1]
  have e9 : ∀ j, j ≠ 74 → j ≠ 2 → I3 99 j = I 99 j := fun j x1 x2 => by rw [m4 99 (by omega), m3 j x1, am_up_n _ _ _ _ x2, c4 99 (by omega), c3 99 (by omega)]
  have ej : ∀ a, a ≠ 52 → a ≠ 53 → J a = I1 a := fun a x y => c4 a (by omega)
  have ei : ∀ a, a ≠ 90 → a ≠ 91 → a ≠ 64 → I1 a = I a := fun a x y z => c3 a (by omega)
  have ct := G.1.2.2.2.2.2
  refine G.nw ⟨u - uSh u + 1, hl.push (k := k) ?_ ?_ hk G.1.2.2.2.1 hs⟩ (rS.fr (fun a _ _ => e a (by omega) (by omega) (by omega) (by omega))) mS wS (px_n3 G.1.2.2.2.2.1 (by rw [h0]) h3) (px_d3' G.2.1 (by rw [h0]) h3) ?_ (GPl.no ?_) ⟨fun a ha => ?_, fun j hj => e9 j (by omega) (by omega)⟩ rfl ⟨rfl, rfl⟩
  · unfold Pc at c1 ⊢; rw [e 90 (by decide) (by decide) (by decide) (by decide), e 91 (by decide) (by decide) (by decide) (by decide), ej 90 (by decide) (by decide), ej 91 (by decide) (by decide)]; exact c1
  · unfold Pm at m1 ⊢
    rw [m4 99 (by decide), m4 136 (by decide)]
    rw [am_up_a _ _ _ _ (by decide), ej 136 (by decide) (by decide), ei 136 (by decide) (by decide) (by decide)] at m1
    exact m1
  · refine ct.fr ?_ ⟨?_, ?_, ?_⟩
    · rw [e 54 (by decide) (by decide) (by decide) (by decide), ej 54 (by decide) (by decide), ei 54 (by decide) (by decide) (by decide)]
    · rw [e 51 (by decide) (by decide) (by decide) (by decide), ej 51 (by decide) (by decide), ei 51 (by decide) (by decide) (by decide)]
    · rw [e 51 (by decide) (by decide) (by decide) (by decide), ej 51 (by decide) (by decide), ei 51 (by decide) (by decide) (by decide)]
    · rw [e 51 (by decide) (by decide) (by decide) (by decide), ej 51 (by decide) (by decide), ei 51 (by decide) (by decide) (by decide)]
  · rw [e 64 (by decide) (by decide) (by decide) (by decide), ej 64 (by decide) (by decide)]; exact c2
  · rw [e a (by omega) (by omega) (by omega) (by omega), ej a (by omega) (by omega), ei a (by omega) (by omega) (by omega)]
def px_does (V σ : (Nat → Int → Int)) (t e z : Int) : (Nat → Int → Int) := if z = 0 then am_up σ 2 t (σ 2 t - V 8 e) else px_add V (am_up σ 2 t (σ 2 t - V 8 e)) t e
theorem PM.no {j1 j2 d : Nat} {as : List am_V} {w : (Nat × Nat × Nat × Nat)} {I L : (Nat → Int → Int)} (r : Int) (hG : GG w I L) (ha : am_Sp (d + 20) j1 (vR (some 0) :: as) (mkH w I L) (fun q h1 => q = some (vI r) ∧ h1 = mkH w I L)) (hb : am_Sp (d + 20) j2 (vR (some 99) :: as) (mkH w I L) (fun q h1 => q = some (vI r) ∧ h1 = mkH w (am_up I 99 2 0) L)) : am_Sp (d + 20) j1 (vR (some 0) :: as) (mkH w I L) (fun r h1 => am_Sp (d + 20) j2 (vR (some 99) :: as) h1 (fun r' h2 => r' = r ∧ r ≠ none ∧ ∃ w2 I2 L2, h2 = mkH w2 I2 L2 ∧ GG w2 I2 L2)) := by
  have hG0 := hG.t
  refine am_Sp_mono ha (fun q h1 hq => ?_)
  obtain ⟨rfl, rfl⟩ := hq
  refine am_Sp_mono hb (fun q h1 hq => ?_)
  obtain ⟨rfl, rfl⟩ := hq
  exact ⟨rfl, by simp, w, _, L, rfl, hG0⟩
set_option maxHeartbeats 1000000 in
theorem p_does {t e z : Int} (hz : z = 0 ∨ z = 1) : PM 103 229 [vI t, vI e, vI z] := by
  intro d w I L hG
  have no := fun r => PM.no (d := d) (j1 := 103) (j2 := 229) (as := [vI t, vI e, vI z]) r hG
  obtain ⟨V, lw, σ, n, f, g, G⟩ := hG
  obtain ⟨⟨hw, hR, hL, hV, hM, hN⟩, rS, mS, wS, ny, ct⟩ := G.1
  obtain ⟨u, hl⟩ := G.2.2.2.2.2.2.1
  by_cases c1 : t = 0 ∨ t = 1
  · by_cases c2 : 0 ≤ e ∧ e < V 0 1
    · have v := hR.2.2.1 e c2.1 c2.2
      have vm := hM.t (v := 0) |>.2.2.1 e c2.1 c2.2
      have wv := hV.2.2.1 e c2.1 c2.2
      have ht : 0 ≤ t ∧ t < 2 := by omega
      have ws2 := wS.2.1 t ht.1 ht.2
      have e53 : I (51 + 2) t = σ 2 t := rS.2.1 t ht.1 ht.2
      have e128 : am_up I 99 2 0 128 t = σ 2 t := mS.t.p0 ht.1 ht.2
      have h8 := hV.1.2.1
      by_cases c3 : V 8 e ≤ σ 2 t
      · have hu := hl.2.1
        have h20 := hl.1
        have h6 := hV.1.1
        have W0 : WS 9000 (am_up σ 2 t (σ 2 t - V 8 e)) := wS.u2 (by omega)
        have W1 : WS 9000 (px_does V σ t e z) := by
          unfold px_does; split
          · exact W0
          · exact W0.add
        rw [S103]
        simp (disch := omega) only [s95, c1, if_true, s94 hw hR, c2, KX, HW hw, HS (show isS 51 from Or.inl rfl), v.2.2.2.1, v.2.1, e53, c3, GA, GR, GRc, GO, GI, GL, GV, am_w_i, am_ga, am_it, am_if, true_and, and_true, or_true, true_or, ne_eq, not_false_eq_true, not_true_eq_false, false_imp_iff, true_imp_iff, Int.reduceEq, Int.reduceLT, Int.reduceLE, Int.reduceAdd, Int.reduceSub, Int.reduceMul, Int.reduceNeg]
        refine s106 (k := V 6 e) rS wS hu h20 (by omega) (fun I1 p1 p2 p3 => ?_)
        have r1 : RS I1 51 σ := rS.fr (fun a _ _ => p3 a (by omega))
        have f53 : I1 (51 + 2) t = σ 2 t := r1.2.1 t ht.1 ht.2
        have fin : ∀ J, RS J 51 (px_does V σ t e z) → Fr (fun a => a = 52 ∨ a = 53) I1 J → am_WP (d + 20) 103 99 [some (vR (some 0)), some (vI t), some (vI e), some (vI z), some (vI (V 8 e)), some (vI (V 6 e))] [] (mkH w J L) (fun r h1 => am_Sp (d + 20) 229 [vR (some 99), vI t, vI e, vI z] h1 (fun r' h2 => r' = r ∧ r ≠ none ∧ ∃ w2 I2 L2, h2 = mkH w2 I2 L2 ∧ GG w2 I2 L2)) := by
          intro J j1 j2
          have g53 : J (51 + 2) t = px_does V σ t e z 2 t := j1.2.1 t ht.1 ht.2
          have fj : ∀ a, a ≠ 52 → a ≠ 53 → a ≠ 90 → a ≠ 91 → a ≠ 64 → J a = I a := fun a x1 x2 x3 x4 x5 => by rw [j2 a (by omega), p3 a (by omega)]
          have hMJ : MW (am_up J 99 2 0) V := (hM.fr (fun a _ _ => fj a (by omega) (by omega) (by omega) (by omega) (by omega)) (fun j _ _ => by rw [fj 99 (by decide) (by decide) (by decide) (by decide) (by decide)])).t
          have mJ : MS (am_up J 99 2 0) L 0 σ := (mS.fb ⟨fun _ _ _ => by rw [fj 127 (by decide) (by decide) (by decide) (by decide) (by decide)], fun _ _ _ => by rw [fj 128 (by decide) (by decide) (by decide) (by decide) (by decide)], fun _ _ _ => by rw [fj 129 (by decide) (by decide) (by decide) (by decide) (by decide)], by rw [fj 130 (by decide) (by decide) (by decide) (by decide) (by decide)], by rw [fj 131 (by decide) (by decide) (by decide) (by decide) (by decide)]⟩ rfl).t
          have u74 : am_up J 99 2 0 99 74 = u := by rw [am_up_n _ _ _ _ (by decide), fj 99 (by decide) (by decide) (by decide) (by decide) (by decide)]; exact hl.2.2.1
          have vj := hMJ.2.2.1 e c2.1 c2.2
          have g128 : am_up J 99 2 0 128 t = σ 2 t := mJ.p0 ht.1 ht.2
          rw [B103_99]
          simp (disch := omega) only [KX, HS (show isS 51 from Or.inl rfl), g53, GA, GR, GRc, GO, GI, GL, GV, am_w_i, am_ga, am_it, am_if, true_and, and_true, or_true, true_or, ne_eq, not_false_eq_true, not_true_eq_false, false_imp_iff, true_imp_iff, Int.reduceEq, Int.reduceLT, Int.reduceLE, Int.reduceAdd, Int.reduceSub, Int.reduceMul, Int.reduceNeg]
          rw [S229]
          simp (disch := omega) only [Kk, B229_5, s201, c1, if_true, s200 hMJ, c2, Ks, Kw, vj.2.2.2.1, g128, c3, GA, GR, GRc, GO, GI, GL, GV, am_w_i, am_ga, am_it, am_if, true_and, and_true, or_true, true_or, ne_eq, not_false_eq_true, not_true_eq_false, false_imp_iff, true_imp_iff, Int.reduceEq, Int.reduceLT, Int.reduceLE, Int.reduceAdd, Int.reduceSub, Int.reduceMul, Int.reduceNeg]
          refine s275 mJ u74 h20 (fun I2 k1 k2 k3 k4 k5 => ?_)
          have mI : MS I2 L 0 σ := mJ.fb ⟨fun _ _ _ => by rw [k4 127 (by decide) (by decide)], fun _ _ _ => by rw [k4 128 (by decide) (by decide)], fun _ _ _ => by rw [k4 129 (by decide) (by decide)], by rw [k4 130 (by decide) (by decide)], by rw [k4 131 (by decide) (by decide)]⟩ rfl
          have hMI : MW I2 V := hMJ.fr (fun a _ _ => k4 a (by omega) (by omega)) (fun j _ _ => k5 j (by omega))
          have vi := hMI.2.2.1 e c2.1 c2.2
          have i128 : I2 128 t = σ 2 t := mI.p0 ht.1 ht.2
          have en : ∀ I3, MS I3 L 0 (px_does V σ t e z) → Fr (fun a => a = 127 ∨ a = 128) I2 I3 → am_WP (d + 20) 229 70 [some (vR (some 99)), some (vI t), some (vI e), some (vI z)] [] (mkH w I3 L) (fun r' h2 => r' = some (vI (px_does V σ t e z 2 t)) ∧ some (vI (px_does V σ t e z 2 t)) ≠ none ∧ ∃ w2 I2 L2, h2 = mkH w2 I2 L2 ∧ GG w2 I2 L2) := by
            intro I3 b1 b2
            have o128 : I3 128 t = px_does V σ t e z 2 t := b1.p0 ht.1 ht.2
            rw [B229_70]
            simp (disch := omega) only [Kk, Ks, o128, GA, GR, GRc, GO, GI, GL, GV, am_w_i, am_ga, am_it, am_if, true_and, and_true, or_true, true_or, ne_eq, not_false_eq_true, not_true_eq_false, false_imp_iff, true_imp_iff, Int.reduceEq, Int.reduceLT, Int.reduceLE, Int.reduceAdd, Int.reduceSub, Int.reduceMul, Int.reduceNeg]
            refine ⟨by simp, w, I3, L, rfl, V, lw, _, n, f, g, G.ps hl (k := V 6 e) (by omega) (fun j j0 j1 hj => ?_) ?_ ?_ W1 p1 p2 p3 j2 j1 ⟨k1, k2, k3⟩ k4 k5 b2 b1⟩
            · unfold px_does; split
              · rw [am_up_a _ _ _ _ (by decide)]
              · unfold px_add; rw [am_up_n _ _ _ _ (by omega), am_up_a _ _ _ _ (by decide)]
            · unfold px_does; split
              · rw [am_up_a _ _ _ _ (by decide)]
              · unfold px_add; rw [am_up_a _ _ _ _ (by decide), am_up_a _ _ _ _ (by decide)]
            · unfold px_does; split
              · rw [am_up_a _ _ _ _ (by decide)]
              · unfold px_add; rw [am_up_a _ _ _ _ (by decide), am_up_a _ _ _ _ (by decide)]
          have mu : MS (am_up I2 128 t (σ 2 t - V 8 e)) L 0 (am_up σ 2 t (σ 2 t - V 8 e)) := by
            have := mI.u2 (i := t) (v := σ 2 t - V 8 e)
            rw [show 2 * 0 + t = t by omega] at this; exact this
          have hMu : MW (am_up I2 128 t (σ 2 t - V 8 e)) V := hMI.fr (fun a _ _ => am_up_a _ _ _ _ (by omega)) (fun j _ _ => by rw [am_up_a _ _ _ _ (by decide)])
          have fu : Fr (fun a => a = 127 ∨ a = 128) I2 (am_up I2 128 t (σ 2 t - V 8 e)) := Fr.rf.up (Or.inr rfl)
          simp (disch := omega) only [Kk, Ks, Kw, vi.2.2.2.1, i128, B229_59, GA, GR, GRc, GO, GI, GL, GV, am_w_i, am_ga, am_it, am_if, true_and, and_true, or_true, true_or, ne_eq, not_false_eq_true, not_true_eq_false, false_imp_iff, true_imp_iff, Int.reduceEq, Int.reduceLT, Int.reduceLE, Int.reduceAdd, Int.reduceSub, Int.reduceMul, Int.reduceNeg]
          rcases hz with e0 | e0
          · subst e0
            have z := en _ mu fu
            first | (simp (disch := omega) only [GA, GR, GRc, GO, GI, GL, GV, am_w_i, am_ga, am_it, am_if, true_and, and_true, or_true, true_or, ne_eq, not_false_eq_true, not_true_eq_false, false_imp_iff, true_imp_iff, Int.reduceEq, Int.reduceLT, Int.reduceLE, Int.reduceAdd, Int.reduceSub, Int.reduceMul, Int.reduceNeg]; exact z) | simp (disch := omega) only [z, GA, GR, GRc, GO, GI, GL, GV, am_w_i, am_ga, am_it, am_if, true_and, and_true, or_true, true_or, ne_eq, not_false_eq_true, not_true_eq_false, false_imp_iff, true_imp_iff, Int.reduceEq, Int.reduceLT, Int.reduceLE, Int.reduceAdd, Int.reduceSub, Int.reduceMul, Int.reduceNeg]
          · subst e0
            simp (disch := omega) only [GA, GR, GRc, GO, GI, GL, GV, am_w_i, am_ga, am_it, am_if, true_and, and_true, or_true, true_or, ne_eq, not_false_eq_true, not_true_eq_false, false_imp_iff, true_imp_iff, Int.reduceEq, Int.reduceLT, Int.reduceLE, Int.reduceAdd, Int.reduceSub, Int.reduceMul, Int.reduceNeg]
            refine s214' hMu hV mu W0 ht c2.1 c2.2 (fun I3 b1 b2 b3 => ?_)
            have z := en I3 b1 (fun a ha => by rw [b3 a (by omega)]; exact fu a ha)
            first | (simp (disch := omega) only [GA, GR, GRc, GO, GI, GL, GV, am_w_i, am_ga, am_it, am_if, true_and, and_true, or_true, true_or, ne_eq, not_false_eq_true, not_true_eq_false, false_imp_iff, true_imp_iff, Int.reduceEq, Int.reduceLT, Int.reduceLE, Int.reduceAdd, Int.reduceSub, Int.reduceMul, Int.reduceNeg]; exact z) | simp (disch := omega) only [z, GA, GR, GRc, GO, GI, GL, GV, am_w_i, am_ga, am_it, am_if, true_and, and_true, or_true, true_or, ne_eq, not_false_eq_true, not_true_eq_false, false_imp_iff, true_imp_iff, Int.reduceEq, Int.reduceLT, Int.reduceLE, Int.reduceAdd, Int.reduceSub, Int.reduceMul, Int.reduceNeg]
        simp (disch := omega) only [KX, HS (show isS 51 from Or.inl rfl), f53, B103_76, GA, GR, GRc, GO, GI, GL, GV, am_w_i, am_ga, am_it, am_if, true_and, and_true, or_true, true_or, ne_eq, not_false_eq_true, not_true_eq_false, false_imp_iff, true_imp_iff, Int.reduceEq, Int.reduceLT, Int.reduceLE, Int.reduceAdd, Int.reduceSub, Int.reduceMul, Int.reduceNeg]
        have ru := r1.u2 (i := t) (v := σ 2 t - V 8 e)
        have fu : Fr (fun a => a = 52 ∨ a = 53) I1 (am_up I1 (51 + 2) t (σ 2 t - V 8 e)) := Fr.rf.up (Or.inr rfl)
        rcases hz with e0 | e0
        · subst e0
          have z := fin _ ru fu
          first | (simp (disch := omega) only [GA, GR, GRc, GO, GI, GL, GV, am_w_i, am_ga, am_it, am_if, true_and, and_true, or_true, true_or, ne_eq, not_false_eq_true, not_true_eq_false, false_imp_iff, true_imp_iff, Int.reduceEq, Int.reduceLT, Int.reduceLE, Int.reduceAdd, Int.reduceSub, Int.reduceMul, Int.reduceNeg]; exact z) | simp (disch := omega) only [z, GA, GR, GRc, GO, GI, GL, GV, am_w_i, am_ga, am_it, am_if, true_and, and_true, or_true, true_or, ne_eq, not_false_eq_true, not_true_eq_false, false_imp_iff, true_imp_iff, Int.reduceEq, Int.reduceLT, Int.reduceLE, Int.reduceAdd, Int.reduceSub, Int.reduceMul, Int.reduceNeg]
        · subst e0
          have R8 : RW (am_up I1 (51 + 2) t (σ 2 t - V 8 e)) w.1 V := by
            have hle := isW_le hw
            exact hR.fr (fun a _ x => by rw [fu a (by omega), p3 a (by omega)])
          have vv := R8.2.2.1 e c2.1 c2.2
          have z := fin _ (ru.u1 (i := 2 * V 6 e + t) (v := px_cl (σ 1 (2 * V 6 e + t) + V 7 e))) (fu.up (Or.inl rfl))
          have q52 : am_up I1 (51 + 2) t (σ 2 t - V 8 e) (51 + 1) (2 * V 6 e + t) = σ 1 (2 * V 6 e + t) := by
            rw [am_up_a _ _ _ _ (by decide)]; exact r1.1 _ (by omega) (by omega)
          simp (disch := omega) only [KX, HW hw, vv.2.2.1, s61 (s := 51) (Or.inl rfl) (k := V 6 e) (t := t) (v := V 7 e) (by omega) ht (ru.bA W0.1) (by omega), q52, GA, GR, GRc, GO, GI, GL, GV, am_w_i, am_ga, am_it, am_if, true_and, and_true, or_true, true_or, ne_eq, not_false_eq_true, not_true_eq_false, false_imp_iff, true_imp_iff, Int.reduceEq, Int.reduceLT, Int.reduceLE, Int.reduceAdd, Int.reduceSub, Int.reduceMul, Int.reduceNeg]
          exact z
      · refine no (-2) ?_ ?_
        · rw [S103]
          simp (disch := omega) only [s95, c1, if_true, s94 hw hR, c2, KX, HW hw, HS (show isS 51 from Or.inl rfl), v.2.2.2.1, e53, c3, GA, GR, GRc, GO, GI, GL, GV, am_w_i, am_ga, am_it, am_if, true_and, and_true, or_true, true_or, ne_eq, not_false_eq_true, not_true_eq_false, false_imp_iff, true_imp_iff, Int.reduceEq, Int.reduceLT, Int.reduceLE, Int.reduceAdd, Int.reduceSub, Int.reduceMul, Int.reduceNeg]
        · rw [S229]
          simp (disch := omega) only [Kk, B229_5, s201, c1, if_true, s200 hM.t, c2, Ks, Kw, vm.2.2.2.1, e128, c3, GA, GR, GRc, GO, GI, GL, GV, am_w_i, am_ga, am_it, am_if, true_and, and_true, or_true, true_or, ne_eq, not_false_eq_true, not_true_eq_false, false_imp_iff, true_imp_iff, Int.reduceEq, Int.reduceLT, Int.reduceLE, Int.reduceAdd, Int.reduceSub, Int.reduceMul, Int.reduceNeg]
    · refine no (-1) ?_ ?_
      · rw [S103]
        simp (disch := omega) only [s95, c1, if_true, s94 hw hR, c2, KX, if_false, B103_15, GA, GR, GRc, GO, GI, GL, GV, am_w_i, am_ga, am_it, am_if, true_and, and_true, or_true, true_or, ne_eq, not_false_eq_true, not_true_eq_false, false_imp_iff, true_imp_iff, Int.reduceEq, Int.reduceLT, Int.reduceLE, Int.reduceAdd, Int.reduceSub, Int.reduceMul, Int.reduceNeg]
      · rw [S229]
        simp (disch := omega) only [Kk, B229_5, s201, c1, if_true, s200 hM.t, c2, if_false, B229_20, GA, GR, GRc, GO, GI, GL, GV, am_w_i, am_ga, am_it, am_if, true_and, and_true, or_true, true_or, ne_eq, not_false_eq_true, not_true_eq_false, false_imp_iff, true_imp_iff, Int.reduceEq, Int.reduceLT, Int.reduceLE, Int.reduceAdd, Int.reduceSub, Int.reduceMul, Int.reduceNeg]
  · refine no (-1) ?_ ?_
    · rw [S103]
      simp (disch := omega) only [s95, c1, if_false, B103_15, GA, GR, GRc, GO, GI, GL, GV, am_w_i, am_ga, am_it, am_if, true_and, and_true, or_true, true_or, ne_eq, not_false_eq_true, not_true_eq_false, false_imp_iff, true_imp_iff, Int.reduceEq, Int.reduceLT, Int.reduceLE, Int.reduceAdd, Int.reduceSub, Int.reduceMul, Int.reduceNeg]
    · rw [S229]
      simp (disch := omega) only [Kk, B229_5, s201, c1, if_false, B229_20, GA, GR, GRc, GO, GI, GL, GV, am_w_i, am_ga, am_it, am_if, true_and, and_true, or_true, true_or, ne_eq, not_false_eq_true, not_true_eq_false, false_imp_iff, true_imp_iff, Int.reduceEq, Int.reduceLT, Int.reduceLE, Int.reduceAdd, Int.reduceSub, Int.reduceMul, Int.reduceNeg]
