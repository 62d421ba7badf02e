/-! one instruction of the abstract machine is one of the machine -/
def am_ty (cy : Nat → ClassId) : List (ClassId × FieldType) := [(cy 12, .byte), (cy 13, .int), (cy 14, .long), (cy 15, .boolean), (cy 16, .object RX6)]
def am_sz : List (Nat × Nat) → Nat
  | [] => 0
  | q :: t => q.2 + am_sz t
theorem am_sz_app : ∀ (a b : List (Nat × Nat)), am_sz (a ++ b) = am_sz a + am_sz b
  | [], b => by simp [am_sz]
  | q :: t, b => by simp [am_sz, am_sz_app t b]; omega
def am_A (b n : Nat) (tg : Bool) : Nat → Prop := fun q => b ≤ q ∧ (tg = true ∨ q < b + n)
theorem am_D {D : va_G} {cy : Nat → ClassId} {b aS n : Nat} {tg : Bool} {h : am_H} (hn : tg = true ∨ h.1.2.length ≤ n) : va_D (am_A b n tg) (am_ws cy b aS h) := by
  refine ⟨fun i j p q h1 h2 e => ?_, fun k q h1 => ?_⟩
  · have l1 : i < h.1.2.length := by rw [← am_ws_len (cy := cy) (b := b) (aS := aS)]; exact (List.getElem?_eq_some_iff.mp h1).1
    have l2 : j < h.1.2.length := by rw [← am_ws_len (cy := cy) (b := b) (aS := aS)]; exact (List.getElem?_eq_some_iff.mp h2).1
    rw [am_ws_get l1] at h1
    rw [am_ws_get l2] at h2
    cases h1; cases h2
    simp at e
    exact e
  · have l1 : k < h.1.2.length := by rw [← am_ws_len (cy := cy) (b := b) (aS := aS)]; exact (List.getElem?_eq_some_iff.mp h1).1
    rw [am_ws_get l1] at h1
    cases h1
    refine ⟨Nat.le_add_right _ _, ?_⟩
    rcases hn with q | q
    · exact Or.inl q
    · right; show b + k < b + n; omega
/-- the locals -/
def am_lr (b aS : Nat) (L : List (Option am_V)) (ls : Array Slot) (nL : Nat) : Prop := ls.size = nL ∧ lv_wf ls ∧ ∀ (i : Nat) (v : am_V), am_lg L i = some v → ls[i]? = some (.val (am_cv b aS v)) ∧ am_okv v
def am_lv (b aS : Nat) (L : List (Option am_V)) (nL : Nat) : List (Nat × Value) := (List.range nL).filterMap fun j => (am_lg L j).map fun v => (j, am_cv b aS v)
theorem am_lr_has {b aS nL : Nat} {L : List (Option am_V)} {ls : Array Slot} (h : am_lr b aS L ls nL) : lv_has ls nL (am_lv b aS L nL) := by
  refine ⟨h.1, h.2.1, fun q hq => ?_⟩
  obtain ⟨j, -, hj⟩ := List.mem_filterMap.mp hq
  cases hl : am_lg L j with
  | none => rw [hl] at hj; simp at hj
  | some v =>
    rw [hl] at hj
    simp at hj
    rw [← hj]
    exact (h.2.2 j v hl).1
theorem am_lv_mem {b aS nL : Nat} {L : List (Option am_V)} {ls : Array Slot} (h : am_lr b aS L ls nL) {j : Nat} {v : am_V} (hl : am_lg L j = some v) : (j, am_cv b aS v) ∈ am_lv b aS L nL := by
  refine List.mem_filterMap.mpr ⟨j, List.mem_range.mpr ?_, by rw [hl]; rfl⟩
  rw [← h.1]
  exact (Array.getElem?_eq_some_iff.mp (h.2.2 j v hl).1).1
theorem am_lg_ls : ∀ (L : List (Option am_V)) (i j : Nat) (x : Option am_V) (v : am_V), am_lg (am_ls L i x) j = some v → (j = i ∧ x = some v) ∨ (j ≠ i ∧ am_lg L j = some v)
  | [], i, j, x, v, h => by simp [am_ls, am_lg] at h
  | y :: t, 0, 0, x, v, h => by simp [am_ls, am_lg] at h; exact Or.inl ⟨rfl, h⟩
  | y :: t, 0, j + 1, x, v, h => by simp [am_ls, am_lg] at h; exact Or.inr ⟨by omega, h⟩
  | y :: t, i + 1, 0, x, v, h => by simp [am_ls, am_lg] at h; exact Or.inr ⟨by omega, h⟩
  | y :: t, i + 1, j + 1, x, v, h => by
    simp only [am_ls, am_lg] at h
    rcases am_lg_ls t i j x v h with ⟨a, c⟩ | ⟨a, c⟩
    · exact Or.inl ⟨by omega, c⟩
    · exact Or.inr ⟨by omega, c⟩
def am_isL : am_V → Prop
  | .inr (.inl _) => True
  | _ => False
theorem am_lg_kp : ∀ (L : List (Option am_V)) (i j : Nat) (v : am_V), am_lg (am_kp L i) j = some v → am_lg L j = some v ∧ ¬ (j + 1 = i ∧ am_isL v)
  | [], i, j, v, h => by cases i <;> simp [am_kp, am_lg] at h
  | y :: t, 0, j, v, h => by
    simp only [am_kp] at h
    exact ⟨h, by omega⟩
  | y :: t, 1, 0, v, h => by
    simp only [am_kp, am_lg] at h
    rcases y with _ | (x | x | x | x)
    · simp [am_kl] at h
    · simp [am_kl] at h; subst h; exact ⟨rfl, fun q => q.2⟩
    · simp [am_kl] at h
    · simp [am_kl] at h; subst h; exact ⟨rfl, fun q => q.2⟩
    · simp [am_kl] at h; subst h; exact ⟨rfl, fun q => q.2⟩
  | y :: t, 1, j + 1, v, h => by
    simp only [am_kp, am_lg] at h
    exact ⟨h, by omega⟩
  | y :: t, i + 2, 0, v, h => by
    simp only [am_kp, am_lg] at h
    exact ⟨h, by omega⟩
  | y :: t, i + 2, j + 1, v, h => by
    simp only [am_kp, am_lg] at h
    obtain ⟨a, c⟩ := am_lg_kp t (i + 1) j v h
    exact ⟨a, fun q => c ⟨by omega, q.2⟩⟩
theorem am_cat_cv (b aS : Nat) (v : am_V) : (am_cv b aS v).category = if am_c1 v then 1 else 2 := by
  rcases v with x | x | x | x
  · rfl
  · rfl
  · cases x <;> rfl
  · rfl
theorem am_cat2 {b aS : Nat} {v : am_V} (h : (am_cv b aS v).category = 2) : am_isL v := by
  rcases v with x | x | x | x
  · cases h
  · trivial
  · cases x <;> cases h
  · cases h
theorem am_lr_s1 {b aS nL i : Nat} {L : List (Option am_V)} {ls ls' : Array Slot} {v : am_V} (h : am_lr b aS L ls nL) (hv : am_okv v) (h' : lv_has ls' nL ((i, am_cv b aS v) :: (am_lv b aS L nL).filter (fun q => !(q.1 == i) && !(q.1 + 1 == i && q.2.category == 2)))) : am_lr b aS (am_s1 L i v) ls' nL := by
  refine ⟨h'.1, h'.2.1, fun j w hw => ?_⟩
  unfold am_s1 at hw
  rcases am_lg_ls _ _ _ _ _ hw with ⟨rfl, e⟩ | ⟨hj, e⟩
  · cases e
    exact ⟨h'.2.2 (j, _) List.mem_cons_self, hv⟩
  · obtain ⟨e1, e2⟩ := am_lg_kp _ _ _ _ e
    refine ⟨h'.2.2 (j, _) (List.mem_cons_of_mem _ (List.mem_filter.mpr ⟨am_lv_mem h e1, ?_⟩)), (h.2.2 j w e1).2⟩
    simp only [Bool.and_eq_true, Bool.not_eq_true', beq_eq_false_iff_ne, Bool.and_eq_false_iff, ne_eq]
    refine ⟨hj, ?_⟩
    rcases Nat.decEq (j + 1) i with q | q
    · exact Or.inl q
    · exact Or.inr fun c => e2 ⟨q, am_cat2 c⟩
theorem am_lr_s2 {b aS nL i : Nat} {L : List (Option am_V)} {ls ls' : Array Slot} {v : am_V} (h : am_lr b aS L ls nL) (hv : am_okv v) (h' : lv_has ls' nL ((i, am_cv b aS v) :: (am_lv b aS L nL).filter (fun q => !(q.1 == i) && (!(q.1 == i + 1) && !(q.1 + 1 == i && q.2.category == 2))))) : am_lr b aS (am_s2 L i v) ls' nL := by
  refine ⟨h'.1, h'.2.1, fun j w hw => ?_⟩
  unfold am_s2 at hw
  rcases am_lg_ls _ _ _ _ _ hw with ⟨_, e⟩ | ⟨hj1, e⟩
  · cases e
  rcases am_lg_ls _ _ _ _ _ e with ⟨rfl, e'⟩ | ⟨hj, e'⟩
  · cases e'
    exact ⟨h'.2.2 (j, _) List.mem_cons_self, hv⟩
  · obtain ⟨e1, e2⟩ := am_lg_kp _ _ _ _ e'
    refine ⟨h'.2.2 (j, _) (List.mem_cons_of_mem _ (List.mem_filter.mpr ⟨am_lv_mem h e1, ?_⟩)), (h.2.2 j w e1).2⟩
    simp only [Bool.and_eq_true, Bool.not_eq_true', beq_eq_false_iff_ne, Bool.and_eq_false_iff, ne_eq]
    refine ⟨hj, hj1, ?_⟩
    rcases Nat.decEq (j + 1) i with q | q
    · exact Or.inl q
    · exact Or.inr fun c => e2 ⟨q, am_cat2 c⟩
