/-! 9l: an E, pure: signs, evaluation on both sides -/
/-- how much a sign binds (class), and the reference's number of a sign -/
def bdC (w : Int) : Int := if w = 4 then 4 else if w = 5 then 4 else if w = 6 then 4 else if w = 42 then 6 else if w = 43 then 5 else if w = 45 then 5 else if w = 47 then 6 else if w = 60 then 4 else if w = 61 then 4 else if w = 62 then 4 else if w = 111 then 1 else if w = 112 then 2 else if w = 113 then 3 else 0
def mpC (w : Int) : Int := if w = 113 then 2 else if w = 112 then 3 else if w = 111 then 4 else if w = 60 then 5 else if w = 4 then 6 else if w = 61 then 7 else if w = 5 then 8 else if w = 6 then 9 else if w = 62 then 10 else if w = 43 then 11 else if w = 45 then 12 else if w = 42 then 13 else if w = 47 then 14 else 0
def rkC (k : Int) : Int := if k < 13 then (if k < 11 then (if k < 5 then (if k = 2 then 3 else if k = 3 then 2 else if k = 4 then 1 else 0) else 4) else 5) else 6
/-- a sign between two values -/
def wbn (w : Int) : Prop := w = 112 ∨ w = 111 ∨ w = 60 ∨ w = 4 ∨ w = 61 ∨ w = 5 ∨ w = 6 ∨ w = 62 ∨ w = 43 ∨ w = 45 ∨ w = 42 ∨ w = 47
def wcd (w : Int) : Prop := w = 40 ∨ w = 113 ∨ wbn w
theorem wbn_of {w : Int} (h : 0 < bdC w) (h3 : w ≠ 113) : wbn w := by
  unfold bdC at h; unfold wbn
  repeat' split at h
  all_goals first | omega | contradiction
theorem wbn_b {w : Int} (h : wbn w) : 0 < bdC w ∧ w ≠ 40 ∧ w ≠ 113 ∧ 3 ≤ mpC w ∧ mpC w ≤ 14 ∧ bdC w ≤ 6 ∧ bdC w ≠ 3 ∧ rkC (mpC w) = bdC w ∧ 0 < w ∧ w < 113 := by
  rcases h with rfl | rfl | rfl | rfl | rfl | rfl | rfl | rfl | rfl | rfl | rfl | rfl <;> decide
theorem wcd_r {w : Int} (h : wcd w) : rkC (mpC w) = bdC w ∧ 0 ≤ w ∧ w ≤ 113 := by
  rcases h with rfl | rfl | h
  · decide
  · decide
  · have := wbn_b h; exact ⟨this.2.2.2.2.2.2.2.1, by omega, by omega⟩
theorem wcd_p {w : Int} (h : wcd w) (h4 : w ≠ 40) : 1 ≤ bdC w := by
  rcases h with rfl | rfl | h
  · exact absurd rfl h4
  · decide
  · have := wbn_b h; omega
theorem px_rp_c {row row' nm : Int → Int} {a : Int} : ∀ m : Nat, (∀ j, a ≤ j → j < a + m → row j = row' j) → px_rp row nm a m = px_rp row' nm a m
  | 0, _ => rfl
  | m + 1, h => by rw [px_rp, px_rp, px_rp_c m (fun j x y => h j x (by omega)), h (a + m) (by omega) (by omega)]
theorem px_mr_c {kn pa ot kn' pa' ot' nm : Int → Int} {a : Int} : ∀ m : Nat, (∀ j, a ≤ j → j < a + m → kn j = kn' j ∧ pa j = pa' j ∧ ot j = ot' j) → px_mr kn pa ot nm a m = px_mr kn' pa' ot' nm a m
  | 0, _ => rfl
  | m + 1, h => by
    have e := h (a + m) (by omega) (by omega)
    rw [px_mr, px_mr, px_mr_c m (fun j x y => h j x (by omega)), e.1, e.2.1, e.2.2]
theorem px_mo_e {k p o : Int} {nm : Int → Int} {x : Bool × (Int → Int)} (h : x.1 = true) : (px_mo k p o nm x).1 = true := by
  unfold px_mo px_mk px_bd
  repeat' split
  all_goals simp [h]
theorem px_mk_j {w a b : Int} (hw : wbn w) (ha : -lT ≤ a ∧ a ≤ lT) (hb : -lT ≤ b ∧ b ≤ lT) : px_mk (mpC w) a b false = if px_join w a b > lT ∨ px_join w a b < -lT then (true, 0) else (false, px_join w a b) := by
  have h01 : ∀ v : Int, (v = 0 ∨ v = 1) → ¬ (v > lT ∨ v < -lT) := fun v h => by unfold lT; omega
  have bd : ∀ v : Int, (px_bd false v, if px_bd false v = true then 0 else v) = if v > lT ∨ v < -lT then (true, 0) else (false, v) := fun v => by
    unfold px_bd
    by_cases c : lT < v ∨ v < -lT
    · simp [c]
    · simp [c]
  rcases hw with rfl | rfl | rfl | rfl | rfl | rfl | rfl | rfl | rfl | rfl | rfl | rfl
  · show (false, if a = 0 then 0 else if b = 0 then 0 else 1) = _
    have e : px_join 112 a b = if a = 0 then 0 else if b = 0 then 0 else 1 := rfl
    rw [e, if_neg (h01 _ (by (repeat' split) <;> simp))]
  · show (false, if a = 0 then (if b = 0 then 0 else 1) else 1) = _
    have e : px_join 111 a b = if a = 0 then (if b = 0 then 0 else 1) else 1 := rfl
    rw [e, if_neg (h01 _ (by (repeat' split) <;> simp))]
  · show (false, if b ≤ a then 0 else 1) = _
    have e : px_join 60 a b = if b ≤ a then 0 else 1 := rfl
    rw [e, if_neg (h01 _ (by split <;> simp))]
  · show (false, if b < a then 0 else 1) = _
    have e : px_join 4 a b = if b < a then 0 else 1 := rfl
    rw [e, if_neg (h01 _ (by split <;> simp))]
  · show (false, if a = b then 1 else 0) = _
    have e : px_join 61 a b = if a = b then 1 else 0 := rfl
    rw [e, if_neg (h01 _ (by split <;> simp))]
  · show (false, if a = b then 0 else 1) = _
    have e : px_join 5 a b = if a = b then 0 else 1 := rfl
    rw [e, if_neg (h01 _ (by split <;> simp))]
  · show (false, if a < b then 0 else 1) = _
    have e : px_join 6 a b = if a < b then 0 else 1 := rfl
    rw [e, if_neg (h01 _ (by split <;> simp))]
  · show (false, if a ≤ b then 0 else 1) = _
    have e : px_join 62 a b = if a ≤ b then 0 else 1 := rfl
    rw [e, if_neg (h01 _ (by split <;> simp))]
  · exact bd (a + b)
  · exact bd (a - b)
  · show (false || px_much a b, if (false || px_much a b) = true then 0 else a * b) = _
    have e : px_join 42 a b = px_mul a b := rfl
    rw [e]
    unfold px_mul
    by_cases a0 : a = 0
    · subst a0
      have : px_much 0 b = false := by unfold px_much; simp
      rw [this, if_pos rfl, if_neg (h01 0 (Or.inl rfl))]; simp
    · rw [if_neg a0]
      by_cases c : iabs b ≤ lT / iabs a
      · have : px_much a b = false := by unfold px_much; simp; intro _ _; exact c
        have b1 := px_mul_b c
        rw [this, if_pos c, if_neg (show ¬ (a * b > lT ∨ a * b < -lT) by omega)]; simp
      · have b0 : b ≠ 0 := fun z => c (by
          subst z
          have p : 0 < iabs a := by unfold iabs; split <;> omega
          have : 0 ≤ lT / iabs a := Int.ediv_nonneg (by unfold lT; omega) (by omega)
          simpa [iabs] using this)
        have : px_much a b = true := by unfold px_much; simp; exact ⟨a0, b0, by omega⟩
        rw [this, if_neg c, if_pos (Or.inr (by unfold mE lT; omega))]; simp
  · show (false || decide (b = 0), if (false || decide (b = 0)) = true then 0 else a.tdiv b) = _
    have e : px_join 47 a b = if b = 0 then mE else a.tdiv b := rfl
    rw [e]
    by_cases b0 : b = 0
    · rw [if_pos b0, if_pos (Or.inr (by unfold mE lT; omega))]; simp [b0]
    · have t := tdiv_b (b := b) ha
      rw [if_neg b0, if_neg (show ¬ (a.tdiv b > lT ∨ a.tdiv b < -lT) by omega)]; simp [b0]
/-- the row of the class against the knots of the reference, with n values on the stack, the knots of which are H -/
def EV (a0 : Int) (X : (Nat → Int → Int)) (n : Int) (H nm : Int → Int) : Prop := (∀ j, a0 ≤ j → j < X 0 6 → -lT ≤ (px_mr (X 19) (X 20) (X 21) nm a0 (X 0 6 - a0).toNat).2 j ∧ (px_mr (X 19) (X 20) (X 21) nm a0 (X 0 6 - a0).toNat).2 j ≤ lT) ∧ ((px_mr (X 19) (X 20) (X 21) nm a0 (X 0 6 - a0).toNat).1 = true → px_rp (X 16) nm a0 (X 0 6 - a0).toNat = none) ∧ ((px_mr (X 19) (X 20) (X 21) nm a0 (X 0 6 - a0).toNat).1 = false → ∃ st, px_rp (X 16) nm a0 (X 0 6 - a0).toNat = some (n.toNat, st) ∧ ∀ j, 0 ≤ j → j < n → st j = (px_mr (X 19) (X 20) (X 21) nm a0 (X 0 6 - a0).toNat).2 (H j))
theorem EV.em {a0 : Int} {X X' : (Nat → Int → Int)} {n n' r k p o : Int} {H H' nm : Int → Int} (h : EV a0 X n H nm) (h0 : a0 ≤ X 0 6) (h6 : X' 0 6 = X 0 6 + 1) (r16 : ∀ j, j < X 0 6 → X' 16 j = X 16 j) (e16 : X' 16 (X 0 6) = r) (r19 : ∀ j, j < X 0 6 → X' 19 j = X 19 j ∧ X' 20 j = X 20 j ∧ X' 21 j = X 21 j) (e19 : X' 19 (X 0 6) = k ∧ X' 20 (X 0 6) = p ∧ X' 21 (X 0 6) = o) (hk : px_okk k p o a0 (X 0 6)) (hn : nmb nm)
    (go : ∀ (v st : Int → Int), (∀ j, a0 ≤ j → j < X 0 6 → -lT ≤ v j ∧ v j ≤ lT) → (∀ j, 0 ≤ j → j < n → st j = v (H j)) → ((px_mo k p o nm (false, v)).1 = true → px_st nm r (some (n.toNat, st)) = none) ∧ ((px_mo k p o nm (false, v)).1 = false → ∃ st', px_st nm r (some (n.toNat, st)) = some (n'.toNat, st') ∧ ∀ j, 0 ≤ j → j < n' → st' j = px_up v (X 0 6) (px_mo k p o nm (false, v)).2 (H' j))) : EV a0 X' n' H' nm := by
  obtain ⟨m, hm⟩ : ∃ m : Nat, X 0 6 - a0 = m := ⟨(X 0 6 - a0).toNat, by omega⟩
  have am : a0 + (m : Int) = X 0 6 := by omega
  obtain ⟨b1, b2, b3⟩ := h
  have e1 : (X 0 6 - a0).toNat = m := by omega
  have e2 : (X' 0 6 - a0).toNat = m + 1 := by omega
  rw [e1] at b1 b2 b3
  have mr : px_mr (X' 19) (X' 20) (X' 21) nm a0 m = px_mr (X 19) (X 20) (X 21) nm a0 m := px_mr_c m (fun j x y => r19 j (by omega))
  have rp : px_rp (X' 16) nm a0 m = px_rp (X 16) nm a0 m := px_rp_c m (fun j x y => r16 j (by omega))
  have mr1 : px_mr (X' 19) (X' 20) (X' 21) nm a0 (m + 1) = ((px_mo k p o nm (px_mr (X 19) (X 20) (X 21) nm a0 m)).1, px_up (px_mr (X 19) (X 20) (X 21) nm a0 m).2 (X 0 6) (px_mo k p o nm (px_mr (X 19) (X 20) (X 21) nm a0 m)).2) := by
    rw [px_mr, mr, am, e19.1, e19.2.1, e19.2.2]
  have rp1 : px_rp (X' 16) nm a0 (m + 1) = px_st nm r (px_rp (X 16) nm a0 m) := by rw [px_rp, rp, am, e16]
  unfold EV
  rw [e2, mr1, rp1]
  generalize px_mr (X 19) (X 20) (X 21) nm a0 m = x at b1 b2 b3
  have mb := px_mo_b (x := x) hk hn b1
  refine ⟨fun j x0 x1 => ?_, ?_, ?_⟩
  · dsimp only
    unfold px_up
    by_cases c : j = X 0 6
    · rw [if_pos c]; exact mb
    · rw [if_neg c]; exact b1 j x0 (by omega)
  · intro z
    dsimp only at z
    cases hx : x.1
    · obtain ⟨st, s1, s2⟩ := b3 hx
      have x2 : x = (false, x.2) := by rw [← hx]
      rw [s1]; rw [x2] at z
      exact (go x.2 st b1 s2).1 z
    · rw [b2 hx]; rfl
  · intro z
    dsimp only at z ⊢
    cases hx : x.1
    · obtain ⟨st, s1, s2⟩ := b3 hx
      have x2 : x = (false, x.2) := by rw [← hx]
      rw [s1]; rw [x2] at z ⊢
      exact (go x.2 st b1 s2).2 z
    · rw [px_mo_e hx] at z; exact absurd z (by decide)
theorem EV.lf {a0 : Int} {X X' : (Nat → Int → Int)} {n r k p : Int} {H nm : Int → Int} (h : EV a0 X n H nm) (h0 : a0 ≤ X 0 6) (h6 : X' 0 6 = X 0 6 + 1) (r16 : ∀ j, j < X 0 6 → X' 16 j = X 16 j) (e16 : X' 16 (X 0 6) = r) (r19 : ∀ j, j < X 0 6 → X' 19 j = X 19 j ∧ X' 20 j = X 20 j ∧ X' 21 j = X 21 j) (e19 : X' 19 (X 0 6) = k ∧ X' 20 (X 0 6) = p ∧ X' 21 (X 0 6) = 0) (hn : nmb nm) (h64 : 0 ≤ n ∧ n < 64) (hH : ∀ j, 0 ≤ j → j < n → H j < X 0 6) (hr : (k = 0 ∧ p = r ∧ 0 ≤ r ∧ r ≤ 9999) ∨ (k = 1 ∧ (0 ≤ p ∧ p < 7) ∧ r = -(114 + p))) : EV a0 X' (n + 1) (px_up H n (X 0 6)) nm := by
  refine h.em (k := k) (p := p) (o := 0) (r := r) h0 h6 r16 e16 r19 e19 ⟨by omega, by omega, by omega, by omega, by omega⟩ hn (fun v st _ hs => ?_)
  have c1 : -r ≤ 0 ∨ 114 ≤ -r := by omega
  have m1 : px_mo k p 0 nm (false, v) = (false, if -r ≤ 0 then r else nm (-r - 114)) := by
    unfold px_mo
    rcases hr with ⟨rfl, rfl, hr0, _⟩ | ⟨rfl, hp, rfl⟩
    · rw [if_pos rfl, if_pos (by omega)]
    · rw [if_neg (by decide), if_pos rfl, if_neg (by omega), show - -(114 + p) - 114 = p by omega]
  rw [m1]
  refine ⟨fun z => by simp at z, fun _ => ⟨px_up st n.toNat (if -r ≤ 0 then r else nm (-r - 114)), ?_, fun j j0 j1 => ?_⟩⟩
  · rw [px_st, if_pos c1, if_neg (by omega), show (n + 1).toNat = n.toNat + 1 by omega]
  · rw [show ((n.toNat : Nat) : Int) = n by omega]
    unfold px_up
    dsimp only
    by_cases c : j = n
    · rw [if_pos c, if_pos c, if_pos rfl]
    · rw [if_neg c, if_neg c, if_neg (by have := hH j j0 (by omega); omega)]; exact hs j j0 (by omega)
theorem EV.nt {a0 : Int} {X X' : (Nat → Int → Int)} {n : Int} {H nm : Int → Int} (h : EV a0 X n H nm) (h0 : a0 ≤ X 0 6) (h6 : X' 0 6 = X 0 6 + 1) (r16 : ∀ j, j < X 0 6 → X' 16 j = X 16 j) (e16 : X' 16 (X 0 6) = -113) (r19 : ∀ j, j < X 0 6 → X' 19 j = X 19 j ∧ X' 20 j = X 20 j ∧ X' 21 j = X 21 j) (e19 : X' 19 (X 0 6) = 2 ∧ X' 20 (X 0 6) = H (n - 1) ∧ X' 21 (X 0 6) = -1) (hn : nmb nm) (h1 : 1 ≤ n) (hH : ∀ j, 0 ≤ j → j < n → a0 ≤ H j ∧ H j < X 0 6) : EV a0 X' n (px_up H (n - 1) (X 0 6)) nm := by
  have hp := hH (n - 1) (by omega) (by omega)
  refine h.em (k := 2) (p := H (n - 1)) (o := -1) (r := -113) h0 h6 r16 e16 r19 e19 ⟨by omega, by omega, by omega, fun _ => hp, by omega⟩ hn (fun v st _ hs => ?_)
  have m1 : px_mo 2 (H (n - 1)) (-1) nm (false, v) = (false, if v (H (n - 1)) = 0 then 1 else 0) := rfl
  rw [m1]
  refine ⟨fun z => by simp at z, fun _ => ⟨px_up st ((n.toNat : Int) - 1) (if st ((n.toNat : Int) - 1) = 0 then 1 else 0), ?_, fun j j0 j1 => ?_⟩⟩
  · rw [px_st, if_neg (by omega), if_pos (by omega), if_neg (by omega)]
  · rw [show ((n.toNat : Nat) : Int) = n by omega, hs (n - 1) (by omega) (by omega)]
    unfold px_up
    dsimp only
    by_cases c : j = n - 1
    · rw [if_pos c, if_pos c, if_pos rfl]
    · rw [if_neg c, if_neg c, if_neg (by have := hH j j0 (by omega); omega)]; exact hs j j0 (by omega)
theorem EV.bn {a0 : Int} {X X' : (Nat → Int → Int)} {n s : Int} {H nm : Int → Int} (h : EV a0 X n H nm) (hw : wbn s) (h0 : a0 ≤ X 0 6) (h6 : X' 0 6 = X 0 6 + 1) (r16 : ∀ j, j < X 0 6 → X' 16 j = X 16 j) (e16 : X' 16 (X 0 6) = -s) (r19 : ∀ j, j < X 0 6 → X' 19 j = X 19 j ∧ X' 20 j = X 20 j ∧ X' 21 j = X 21 j) (e19 : X' 19 (X 0 6) = mpC s ∧ X' 20 (X 0 6) = H (n - 2) ∧ X' 21 (X 0 6) = H (n - 1)) (hn : nmb nm) (h1 : 2 ≤ n) (hH : ∀ j, 0 ≤ j → j < n → a0 ≤ H j ∧ H j < X 0 6) : EV a0 X' (n - 1) (px_up H (n - 2) (X 0 6)) nm := by
  have hp := hH (n - 2) (by omega) (by omega)
  have ho := hH (n - 1) (by omega) (by omega)
  obtain ⟨w1, w2, w3, w4, w5, w6, w7, w8, w9, w10⟩ := wbn_b hw
  refine h.em (k := mpC s) (p := H (n - 2)) (o := H (n - 1)) (r := -s) h0 h6 r16 e16 r19 e19 ⟨by omega, by omega, by omega, fun _ => hp, fun _ => ho⟩ hn (fun v st hv hs => ?_)
  have m1 : px_mo (mpC s) (H (n - 2)) (H (n - 1)) nm (false, v) = px_mk (mpC s) (v (H (n - 2))) (v (H (n - 1))) false := by
    unfold px_mo
    rw [if_neg (by omega), if_neg (by omega), if_neg (by omega)]
  have s1 : px_st nm (-s) (some (n.toNat, st)) = if px_join s (v (H (n - 2))) (v (H (n - 1))) > lT ∨ px_join s (v (H (n - 2))) (v (H (n - 1))) < -lT then none else some (n.toNat - 1, px_up st ((n.toNat : Int) - 2) (px_join s (v (H (n - 2))) (v (H (n - 1))))) := by
    rw [px_st, if_neg (by omega), if_neg (by omega), if_neg (by omega), show ((n.toNat : Nat) : Int) = n by omega, hs (n - 2) (by omega) (by omega), hs (n - 1) (by omega) (by omega), show - -s = s by omega]
  rw [m1, s1, px_mk_j hw (hv _ hp.1 hp.2) (hv _ ho.1 ho.2)]
  by_cases c : px_join s (v (H (n - 2))) (v (H (n - 1))) > lT ∨ px_join s (v (H (n - 2))) (v (H (n - 1))) < -lT
  · rw [if_pos c, if_pos c]; exact ⟨fun _ => rfl, fun z => by simp at z⟩
  · rw [if_neg c, if_neg c]
    refine ⟨fun z => by simp at z, fun _ => ⟨_, by rw [show (n - 1).toNat = n.toNat - 1 by omega], fun j j0 j1 => ?_⟩⟩
    rw [show ((n.toNat : Nat) : Int) = n by omega]
    unfold px_up
    dsimp only
    by_cases c : j = n - 2
    · rw [if_pos c, if_pos c, if_pos rfl]
    · rw [if_neg c, if_neg c, if_neg (by have := hH j j0 (by omega); omega)]; exact hs j j0 (by omega)
