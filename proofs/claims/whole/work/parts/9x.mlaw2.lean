/-! 9x: the line law, a line: the reference -/
def lwH (s : Nat → Int) (X : (Nat → Int → Int)) (l : Int) (r : Int × Nat × (Nat → Int → Int)) : Int × Nat × (Nat → Int → Int) := if r.1 = 0 then (if s r.2.1 = 59 then (0, r.2.1, am_up r.2.2 18 l (r.2.2 0 6)) else (1, r.2.1, am_up r.2.2 18 l (r.2.2 0 6))) else (r.1, r.2.1, X)
def lwG (s u : Nat → Int) (K : Nat) (X : (Nat → Int → Int)) (k : Nat) : Int × Nat × (Nat → Int → Int) := if 108 ≤ s (k + 1) ∧ s (k + 1) ≤ 110 then (if X 17 (s (k + 1) - 108) < 0 then lwH s X (s (k + 1) - 108) (vlF s u (K - (k + 1)) (lw0 X (s (k + 1) - 108)) 1 (k + 2)) else (3, k + 1, X)) else (1, k + 1, X)
theorem lwF_g {s u : Nat → Int} {K : Nat} {X : (Nat → Int → Int)} {k : Nat} : lwF s u K X k = finF s (lwG s u K X k) := by
  unfold lwF lwG
  by_cases c1 : 108 ≤ s (k + 1) ∧ s (k + 1) ≤ 110
  · rw [if_pos c1, if_pos c1]
    by_cases c2 : X 17 (s (k + 1) - 108) < 0
    · rw [if_pos c2, if_pos c2]
      generalize vlF s u (K - (k + 1)) (lw0 X (s (k + 1) - 108)) 1 (k + 2) = r
      unfold lwE lwH
      by_cases c3 : r.1 = 0
      · rw [if_pos c3, if_pos c3]
        by_cases c4 : s r.2.1 = 59
        · rw [if_pos c4]; exact fin_0
        · rw [if_neg c4]; unfold endF finF; rw [if_neg c4]; simp
      · rw [if_neg c3, if_neg c3]; unfold finF; rw [if_neg c3]
    · rw [if_neg c2, if_neg c2]; rfl
  · rw [if_neg c1, if_neg c1]; rfl
def lnG (s u : Nat → Int) (K : Nat) (X : (Nat → Int → Int)) (k : Nat) : Int × Nat × (Nat → Int → Int) := if s k = 100 then kdG s u X k else if s k = 101 then hsG s u X k else if s k = 102 then ddG s u X k else if s k = 103 then doG s u X k else if s k = 104 then prG s u 13 0 999 X k else if s k = 105 then prG s u 14 2 9 X k else if s k = 106 then sdG s u X k else if s k = 107 then lwG s u K X k else (1, k, X)
theorem lnF_g {s u : Nat → Int} {K : Nat} {X : (Nat → Int → Int)} {k : Nat} : lnF s u K X k = finF s (lnG s u K X k) := by
  unfold lnF lnG
  by_cases c0 : s k = 100
  · rw [if_pos c0, if_pos c0]; exact kdF_g
  · rw [if_neg c0, if_neg c0]
    by_cases c1 : s k = 101
    · rw [if_pos c1, if_pos c1]; exact hsF_g
    · rw [if_neg c1, if_neg c1]
      by_cases c2 : s k = 102
      · rw [if_pos c2, if_pos c2]; exact ddF_g
      · rw [if_neg c2, if_neg c2]
        by_cases c3 : s k = 103
        · rw [if_pos c3, if_pos c3]; exact doF_g
        · rw [if_neg c3, if_neg c3]
          by_cases c4 : s k = 104
          · rw [if_pos c4, if_pos c4]; exact prF_g
          · rw [if_neg c4, if_neg c4]
            by_cases c5 : s k = 105
            · rw [if_pos c5, if_pos c5]; exact prF_g
            · rw [if_neg c5, if_neg c5]
              by_cases c6 : s k = 106
              · rw [if_pos c6, if_pos c6]; exact sdF_g
              · rw [if_neg c6, if_neg c6]
                by_cases c7 : s k = 107
                · rw [if_pos c7, if_pos c7]; exact lwF_g
                · rw [if_neg c7, if_neg c7]; rfl
theorem bnd_k {K : Nat} {r : Int × Nat × Int} {X : (Nat → Int → Int)} {f : Int → Nat → Int × Nat × (Nat → Int → Int)} (h1 : r.1 = 0 → r.2.1 ≤ K) (h2 : ∀ a k, k ≤ K → (f a k).1 = 0 → (f a k).2.1 ≤ K) (h : (bnd r X f).1 = 0) : (bnd r X f).2.1 ≤ K := by
  unfold bnd at h ⊢
  by_cases c : r.1 = 0
  · rw [if_pos c] at h ⊢; exact h2 _ _ (h1 c) h
  · rw [if_neg c] at h; exact absurd h c
theorem lnG_k {s u : Nat → Int} {K k : Nat} {X : (Nat → Int → Int)} (hu : TU s u K) (hk : k < K) (h : (lnG s u K X k).1 = 0) : (lnG s u K X k).2.1 ≤ K := by
  have nn : ∀ {f c k}, k ≤ K → (nnF s u f c k).1 = 0 → (nnF s u f c k).2.1 ≤ K := fun hk h => (nnF_v hu hk h).2
  have nm : ∀ {m k}, k ≤ K → (nmF s u k m).1 = 0 → (nmF s u k m).2.1 ≤ K := fun hk h => (nmF_v hu hk h).2.2
  have on : ∀ {f c k}, k ≤ K → (onF s u f c k).1 = 0 → (onF s u f c k).2.1 ≤ K := fun hk h => (onF_v hu hk h).2
  have sg : ∀ {m k}, k ≤ K → (sgF s u k m).1 = 0 → (sgF s u k m).2.1 ≤ K := fun hk h => (sgF_v hu hk h).2
  have kd : (kdG s u X k).1 = 0 → (kdG s u X k).2.1 ≤ K := by
    unfold kdG; split
    · exact bnd_k (nn hk) (fun a k1 e1 => bnd_k (nm e1) (fun b k2 e2 => bnd_k (nm e2) (fun c k3 e3 _ => e3)))
    · intro z; simp at z
  have hs : (hsG s u X k).1 = 0 → (hsG s u X k).2.1 ≤ K := by
    unfold hsG; split
    · exact bnd_k (nm hk) (fun a k1 e1 => bnd_k (on e1) (fun b k2 e2 => bnd_k (sg e2) (fun c k3 e3 _ => e3)))
    · intro z; simp at z
  have dd : (ddG s u X k).1 = 0 → (ddG s u X k).2.1 ≤ K := by
    unfold ddG; split
    · exact bnd_k (nn hk) (fun a k1 e1 => bnd_k (on e1) (fun b k2 e2 => bnd_k (sg e2) (fun c k3 e3 => bnd_k (nm e3) (fun c k4 e4 => bnd_k (nm e4) (fun c k5 e5 _ => e5)))))
    · intro z; simp at z
  have dn : (doG s u X k).1 = 0 → (doG s u X k).2.1 ≤ K := by
    unfold doG; split
    · exact bnd_k (nm hk) (fun a k1 e1 => bnd_k (on e1) (fun b k2 e2 => bnd_k (nm e2) (fun c k3 e3 _ => e3)))
    · intro z; simp at z
  have pr : ∀ a fb m, (prG s u a fb m X k).1 = 0 → (prG s u a fb m X k).2.1 ≤ K := by
    intro a fb m
    unfold prG
    refine bnd_k (nm hk) (fun t k1 e1 => ?_)
    split
    · exact bnd_k (nm e1) (fun b k2 e2 _ => e2)
    · intro z; simp at z
  have sd : (sdG s u X k).1 = 0 → (sdG s u X k).2.1 ≤ K := by
    unfold sdG; split
    · exact bnd_k (nm hk) (fun a k1 e1 _ => e1)
    · intro z; simp at z
  have lw : (lwG s u K X k).1 = 0 → (lwG s u K X k).2.1 ≤ K := by
    unfold lwG
    by_cases c1 : 108 ≤ s (k + 1) ∧ s (k + 1) ≤ 110
    · rw [if_pos c1]
      by_cases c2 : X 17 (s (k + 1) - 108) < 0
      · rw [if_pos c2]
        have v := vlF_k (u := u) hu.1 (f := K - (k + 1)) (X := lw0 X (s (k + 1) - 108)) (b := 1) (k := k + 2) (rd_k hu.1 hk (show s (k + 1) ≠ 0 by omega))
        generalize vlF s u (K - (k + 1)) (lw0 X (s (k + 1) - 108)) 1 (k + 2) = r at v
        unfold lwH
        by_cases c3 : r.1 = 0
        · rw [if_pos c3]
          by_cases c4 : s r.2.1 = 59
          · rw [if_pos c4]; intro _; exact v c3
          · rw [if_neg c4]; intro z; simp at z
        · rw [if_neg c3]; intro z; exact absurd z c3
      · rw [if_neg c2]; intro z; simp at z
    · rw [if_neg c1]; intro z; simp at z
  unfold lnG at h ⊢
  repeat' split at h
  all_goals first
    | (rename_i c0; rw [if_pos c0]; exact kd h)
    | skip
  all_goals simp_all
theorem TR.ln {s v kd wh : Int} (h : TR s v kd wh) : ((kd = 1 ∧ wh ≤ 7) ↔ (100 ≤ s ∧ s ≤ 107)) ∧ (kd = 1 → wh ≤ 10 → wh = s - 100 ∧ 0 ≤ wh) ∧ ((kd = 1 ∧ 8 ≤ wh ∧ wh ≤ 10) ↔ (108 ≤ s ∧ s ≤ 110)) := by
  unfold TR at h
  rcases h with h | h | h | h | h | h | h
  all_goals (refine ⟨?_, ?_, ?_⟩ <;> first | (constructor <;> intro z <;> omega) | (intro z1 z2; omega))
theorem EF.pf {I J : (Nat → Int → Int)} (h : EF I J) : PF I J := by
  refine ⟨fun a x y => h.1 a x (by omega), fun a j x y z => ?_, fun x a b c e f => h.2.2 x a b c (by omega) (by omega)⟩
  by_cases c : 120 ≤ a
  · refine h.2.1 a j c y ?_
    unfold hfN at z
    rw [if_neg (by omega), if_neg (by omega), if_neg (by omega), if_neg (by omega), if_neg (by omega), if_neg (by omega), if_neg (by omega), if_neg (by omega)] at z
    exact z
  · rw [h.1 a (by omega) (by omega)]
theorem NX.lw {I I' X Y : (Nat → Int → Int)} {l : Int} (h : NX I X) (hl : 0 ≤ l ∧ l < 3) (h6 : 0 ≤ X 0 6) (fa : ∀ a, 102 ≤ a → a ≤ 116 → I' a = I a) (f1 : ∀ j, j ≠ 3 + l → I' 117 j = I 117 j ∧ I' 118 j = I 118 j ∧ I' 119 j = I 119 j) (e117 : I' 117 (3 + l) = 1) (e118 : I' 118 (3 + l) = X 0 6) (e119 : I' 119 (3 + l) = Y 0 6) (g : ∀ x, (16 ≤ x ∧ x ≤ 19) ∨ x = 21 ∨ x = 4 ∨ x = 5 → I' 99 x = I 99 x) (g20 : I' 99 20 = Y 0 6 ∧ I' 99 48 = Y 0 4) (gk : ∀ j, 0 ≤ j → j < Y 0 6 → I' 120 (64 + j) = Y 19 j ∧ I' 121 (64 + j) = Y 20 j ∧ I' 122 (64 + j) = Y 21 j) (xf : XF (lw0 X l) Y) : NX I' (am_up Y 18 l (Y 0 6)) := by
  obtain ⟨⟨⟨p1, p2, p3⟩, p4, p5, p6⟩, ⟨q1, q2, q3⟩, r1, r2, r3, r4, r5, r6, r7⟩ := h
  have z0 : ∀ j, j ≠ 4 → j ≠ 6 → ¬ (8 ≤ j ∧ j ≤ 10) → Y 0 j = X 0 j := fun j a b c => by
    rw [xf.2.1 j a b c]; unfold lw0
    rw [am_up_n _ _ _ _ (by omega), am_up_n _ _ _ _ (by omega), am_up_n _ _ _ _ (by omega), am_up_a _ _ _ _ (by decide)]
  have za : ∀ a, a ≠ 0 → a ≠ 16 → a ≠ 17 → ¬ (19 ≤ a ∧ a ≤ 23) → Y a = X a := fun a a0 b c e => by
    rw [xf.1 a a0 b e]; unfold lw0
    rw [am_up_a _ _ _ _ a0, am_up_a _ _ _ _ a0, am_up_a _ _ _ _ a0, am_up_a _ _ _ _ c]
  have z17 : Y 17 = px_up (X 17) l (X 0 6) := by
    rw [xf.1 17 (by decide) (by decide) (by decide)]; unfold lw0
    rw [am_up_a _ _ _ _ (by decide), am_up_a _ _ _ _ (by decide), am_up_a _ _ _ _ (by decide), am_up_px]
  unfold NX
  simp (disch := decide) only [am_up_a, am_up_px, z0, za, z17]
  rw [g 4 (by omega), g 5 (by omega), g 16 (by omega), g 17 (by omega), g 18 (by omega), g 19 (by omega), g 21 (by omega), fa 102 (by omega) (by omega), fa 103 (by omega) (by omega), fa 104 (by omega) (by omega), fa 105 (by omega) (by omega), fa 106 (by omega) (by omega), fa 107 (by omega) (by omega), fa 108 (by omega) (by omega), fa 109 (by omega) (by omega), fa 110 (by omega) (by omega), fa 111 (by omega) (by omega), fa 112 (by omega) (by omega), fa 113 (by omega) (by omega), fa 114 (by omega) (by omega), fa 115 (by omega) (by omega), fa 116 (by omega) (by omega)]
  refine ⟨⟨⟨p1, p2, p3⟩, p4, g20.1, g20.2⟩, ⟨q1, q2, q3⟩, r1, r2, r3, r4, r5, fun j j0 j1 => ?_, gk, r7.2⟩
  by_cases c : j = l
  · subst c; rw [px_up_s, px_up_s]; exact Or.inr ⟨e117, h6, e118, e119⟩
  · rw [px_up_n c, px_up_n c, (f1 (3 + j) (by omega)).1, (f1 (3 + j) (by omega)).2.1, (f1 (3 + j) (by omega)).2.2]; exact r6 j j0 j1
