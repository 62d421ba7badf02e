/-! what a heap of the abstract machine says of the heap -/
def am_cv (b aS : Nat) : am_V → Value
  | .inl x => .int (Int32.ofInt x)
  | .inr (.inl x) => .long (Int64.ofInt x)
  | .inr (.inr (.inl r)) => va_rf (r.map (b + ·))
  | .inr (.inr (.inr _)) => .ref aS
def am_okv : am_V → Prop
  | .inl x => am_in x
  | .inr (.inl x) => am_inl x
  | _ => True
def am_okh (h : am_H) : Prop := (∀ a j, am_in (h.2.1 a j)) ∧ (∀ a j, am_inl (h.2.2.1 a j)) ∧ ∀ q ∈ h.1.2, q.2 ≤ 4096
def am_fs (b aS : Nat) (h : am_H) (a : Nat) : Nat → List Nat → List Value
  | _, [] => []
  | k, ty :: t => am_cv b aS (am_gf h a k ty) :: am_fs b aS h a (k + 1) t
theorem am_fs_get (b aS : Nat) (h : am_H) (a : Nat) : ∀ (tys : List Nat) (k q : Nat), (am_fs b aS h a k tys)[q]? = (tys[q]?).map fun ty => am_cv b aS (am_gf h a (k + q) ty)
  | [], k, q => by simp [am_fs]
  | ty :: t, k, 0 => by simp [am_fs]
  | ty :: t, k, q + 1 => by
    rw [am_fs, List.getElem?_cons_succ, List.getElem?_cons_succ, am_fs_get b aS h a t (k + 1) q]
    congr 1; funext ty; rw [show k + 1 + q = k + (q + 1) by omega]
theorem am_fs_len (b aS : Nat) (h : am_H) (a : Nat) : ∀ (tys : List Nat) (k : Nat), (am_fs b aS h a k tys).length = tys.length
  | [], k => rfl
  | ty :: t, k => by rw [am_fs, List.length_cons, am_fs_len b aS h a t, List.length_cons]
/-- the cell at a place, by what the machine has there -/
def am_ce (cy : Nat → ClassId) (b aS : Nat) (h : am_H) (a : Nat) : va_E :=
  if am_kd h a < 12 then .inr (am_kd h a, am_fs b aS h a 0 (am_lay (am_kd h a)))
  else if am_kd h a = 14 then .inl (cy 14, (h.1.2.getD a (99, 0)).2, .inr (.inl fun j => Int64.ofInt (h.2.2.1 a j)))
  else if am_kd h a = 16 then .inl (cy 16, (h.1.2.getD a (99, 0)).2, .inr (.inr (.inr (.inr fun j => (h.2.2.2 a j).map (b + ·)))))
  else .inl (cy (am_kd h a), (h.1.2.getD a (99, 0)).2, .inl fun j => Int32.ofInt (h.2.1 a j))
def am_ws (cy : Nat → ClassId) (b aS : Nat) (h : am_H) : va_W := (List.range h.1.2.length).map fun a => (b + a, am_ce cy b aS h a)
theorem am_ws_len {cy : Nat → ClassId} {b aS : Nat} {h : am_H} : (am_ws cy b aS h).length = h.1.2.length := by simp [am_ws]
theorem am_ws_get {cy : Nat → ClassId} {b aS : Nat} {h : am_H} {a : Nat} (ha : a < h.1.2.length) : (am_ws cy b aS h)[a]? = some (b + a, am_ce cy b aS h a) := by
  simp [am_ws, ha]
theorem am_ws_none {cy : Nat → ClassId} {b aS : Nat} {h : am_H} {a : Nat} (ha : ¬ a < h.1.2.length) : (am_ws cy b aS h)[a]? = none := by
  simp [am_ws]; omega
theorem am_kd_lt {h : am_H} {a k : Nat} (hk : am_kd h a = k) (h99 : k ≠ 99) : a < h.1.2.length := by
  rcases Nat.lt_or_ge a h.1.2.length with q | q
  · exact q
  · exfalso
    apply h99
    rw [← hk, am_kd, List.getD_eq_getElem?_getD, List.getElem?_eq_none q]
    rfl
theorem am_ce_congr {cy : Nat → ClassId} {b aS : Nat} {h h' : am_H} {a : Nat} (h1 : h'.1 = h.1) (h2 : h'.2.1 a = h.2.1 a) (h3 : h'.2.2.1 a = h.2.2.1 a) (h4 : h'.2.2.2 a = h.2.2.2 a) : am_ce cy b aS h' a = am_ce cy b aS h a := by
  have e : am_fs b aS h' a = am_fs b aS h a := by
    funext k tys
    apply List.ext_getElem?
    intro q
    rw [am_fs_get, am_fs_get]
    congr 1; funext ty
    unfold am_gf
    rw [h2, h3, h4]
  have e2 : am_kd h' a = am_kd h a := by unfold am_kd; rw [h1]
  unfold am_ce
  rw [e, e2, h1, h2, h3, h4]
theorem am_ws_set {cy : Nat → ClassId} {b aS : Nat} {h h' : am_H} {a : Nat} (h1 : h'.1 = h.1) (h2 : ∀ q, q ≠ a → h'.2.1 q = h.2.1 q) (h3 : ∀ q, q ≠ a → h'.2.2.1 q = h.2.2.1 q) (h4 : ∀ q, q ≠ a → h'.2.2.2 q = h.2.2.2 q) {e : va_E} (he : am_ce cy b aS h' a = e) : (am_ws cy b aS h).set a (b + a, e) = am_ws cy b aS h' := by
  subst he
  apply List.ext_getElem?
  intro q
  rw [List.getElem?_set]
  by_cases hq : q < h.1.2.length
  · rw [am_ws_get (h := h') (by rw [h1]; exact hq)]
    by_cases e : a = q
    · subst e
      rw [if_pos rfl, if_pos (by rw [am_ws_len]; exact hq)]
    · rw [if_neg e, am_ws_get hq, am_ce_congr h1 (h2 q (Ne.symm e)) (h3 q (Ne.symm e)) (h4 q (Ne.symm e))]
  · rw [am_ws_none (h := h') (by rw [h1]; exact hq), am_ws_none hq]
    by_cases e : a = q
    · rw [if_pos e, if_neg (by rw [am_ws_len]; omega)]
    · rw [if_neg e]
theorem am_up_ne {α : Type} (f : Nat → Int → α) (a : Nat) (i : Int) (v : α) {q : Nat} (h : q ≠ a) : am_up f a i v q = f q := by
  funext j; simp [am_up, h]
theorem am_ce_obj {cy : Nat → ClassId} {b aS : Nat} {h : am_H} {a ci : Nat} (hk : am_kd h a = ci) (hc : ci < 12) : am_ce cy b aS h a = .inr (ci, am_fs b aS h a 0 (am_lay ci)) := by
  unfold am_ce; rw [hk, if_pos hc]
theorem am_ce_int {cy : Nat → ClassId} {b aS : Nat} {h : am_H} {a k : Nat} (hk : am_kd h a = k) (hc : k = 12 ∨ k = 13 ∨ k = 15) : am_ce cy b aS h a = .inl (cy k, (h.1.2.getD a (99, 0)).2, .inl fun j => Int32.ofInt (h.2.1 a j)) := by
  unfold am_ce; rw [hk, if_neg (by omega), if_neg (by omega), if_neg (by omega)]
theorem am_ce_long {cy : Nat → ClassId} {b aS : Nat} {h : am_H} {a : Nat} (hk : am_kd h a = 14) : am_ce cy b aS h a = .inl (cy 14, (h.1.2.getD a (99, 0)).2, .inr (.inl fun j => Int64.ofInt (h.2.2.1 a j))) := by
  unfold am_ce; rw [hk, if_neg (by omega), if_pos rfl]
theorem am_ce_ref {cy : Nat → ClassId} {b aS : Nat} {h : am_H} {a : Nat} (hk : am_kd h a = 16) : am_ce cy b aS h a = .inl (cy 16, (h.1.2.getD a (99, 0)).2, .inr (.inr (.inr (.inr fun j => (h.2.2.2 a j).map (b + ·))))) := by
  unfold am_ce; rw [hk, if_neg (by omega), if_neg (by omega), if_pos rfl]
/-- the fields behind a write -/
theorem am_fs_set {b aS : Nat} {h h' : am_H} {a k ty : Nat} {v : am_V} {tys : List Nat} (hty : tys[k]? = some ty) (hv : am_gf h' a k ty = v) (ho : ∀ q ty', tys[q]? = some ty' → q ≠ k → am_gf h' a q ty' = am_gf h a q ty') : (am_fs b aS h a 0 tys).set k (am_cv b aS v) = am_fs b aS h' a 0 tys := by
  apply List.ext_getElem?
  intro q
  rw [List.getElem?_set, am_fs_get, am_fs_get, Nat.zero_add]
  have hk : k < tys.length := (List.getElem?_eq_some_iff.mp hty).1
  by_cases e : k = q
  · subst e
    rw [if_pos rfl, if_pos (by rw [am_fs_len]; exact hk), hty, Option.map_some, hv]
  · rw [if_neg e]
    cases hq : tys[q]? with
    | none => rfl
    | some ty' => rw [Option.map_some, Option.map_some, ho q ty' hq (Ne.symm e)]
