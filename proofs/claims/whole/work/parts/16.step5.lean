/-! new cells, constants, switches, the library's own -/
def am_dv : Option Nat → Value
  | some 2 => .long 0
  | some 3 => .null
  | _ => .int 0
theorem am_dT {ci : Nat} {C : String} {T : u_T} {N : Nat} (h : vwCl[ci]? = some (C, T, N)) : ∃ ty0 : Nat → FieldType, (∀ k, k < N → parseFieldDescriptor (T k).2.2.1 = some (ty0 k)) ∧ (∀ k, k < N → defaultValue (ty0 k) = am_dv ((am_lay ci)[k]?)) := by
  match ci, h with
  | 0, h => cases h; exact ⟨_, tyX0_ok, by decide +kernel⟩
  | 1, h => cases h; exact ⟨_, tyX1_ok, by decide +kernel⟩
  | 2, h => cases h; exact ⟨_, tyX2_ok, by decide +kernel⟩
  | 3, h => cases h; exact ⟨_, tyX3_ok, by decide +kernel⟩
  | 4, h => cases h; exact ⟨_, tyX4_ok, by decide +kernel⟩
  | 5, h => cases h; exact ⟨_, tyX5_ok, by decide +kernel⟩
  | 6, h => cases h; exact ⟨_, tyX6_ok, by decide +kernel⟩
  | 7, h => cases h; exact ⟨_, tyX7_ok, by decide +kernel⟩
  | 8, h => cases h; exact ⟨_, tyX8_ok, by decide +kernel⟩
  | 9, h => cases h; exact ⟨_, tyX9_ok, by decide +kernel⟩
  | 10, h => cases h; exact ⟨_, tyX10_ok, by decide +kernel⟩
  | 11, h => cases h; exact ⟨_, tyX11_ok, by decide +kernel⟩
  | k + 12, h => simp [vwCl] at h
theorem am_lay4 : ∀ ci, ci < 12 → ∀ ty ∈ am_lay ci, ty < 4 := by decide +kernel
section
variable {cy : Nat → ClassId} {b aS : Nat} {h : am_H} {kd n : Nat}
theorem am_nw_old {a : Nat} (ha : a < h.1.2.length) : am_ce cy b aS (am_nw h kd n) a = am_ce cy b aS h a := by
  have e0 : (h.1.2 ++ [(kd, n)]).getD a (99, 0) = h.1.2.getD a (99, 0) := by
    rw [List.getD_eq_getElem?_getD, List.getD_eq_getElem?_getD, List.getElem?_append_left ha]
  have e1 : am_kd (am_nw h kd n) a = am_kd h a := by unfold am_kd am_nw; rw [e0]
  have e2 : (am_nw h kd n).2.1 a = h.2.1 a := by funext j; show (if a = h.1.2.length then 0 else h.2.1 a j) = _; rw [if_neg (by omega)]
  have e3 : (am_nw h kd n).2.2.1 a = h.2.2.1 a := by funext j; show (if a = h.1.2.length then 0 else h.2.2.1 a j) = _; rw [if_neg (by omega)]
  have e4 : (am_nw h kd n).2.2.2 a = h.2.2.2 a := by funext j; show (if a = h.1.2.length then none else h.2.2.2 a j) = _; rw [if_neg (by omega)]
  have e5 : am_fs b aS (am_nw h kd n) a = am_fs b aS h a := by
    funext k tys
    apply List.ext_getElem?
    intro q
    rw [am_fs_get, am_fs_get]
    congr 1; funext ty
    unfold am_gf
    rw [e2, e3, e4]
  unfold am_ce
  rw [e1, e2, e3, e4, e5, show (am_nw h kd n).1.2.getD a (99, 0) = h.1.2.getD a (99, 0) from e0]
theorem am_ws_nw : am_ws cy b aS (am_nw h kd n) = am_ws cy b aS h ++ [(b + h.1.2.length, am_ce cy b aS (am_nw h kd n) h.1.2.length)] := by
  have e : (am_nw h kd n).1.2.length = h.1.2.length + 1 := by simp [am_nw]
  apply List.ext_getElem?
  intro q
  rcases Nat.lt_trichotomy q h.1.2.length with z | z | z
  · rw [am_ws_get (h := am_nw h kd n) (by omega), List.getElem?_append_left (by rw [am_ws_len]; exact z), am_ws_get z, am_nw_old z]
  · subst z
    rw [am_ws_get (h := am_nw h kd n) (by omega), List.getElem?_append_right (by rw [am_ws_len]; exact Nat.le_refl _), am_ws_len, Nat.sub_self]
    rfl
  · rw [am_ws_none (h := am_nw h kd n) (by omega), List.getElem?_append_right (by rw [am_ws_len]; omega), am_ws_len]
    symm
    apply List.getElem?_eq_none
    simp; omega
theorem am_nw_kd : am_kd (am_nw h kd n) h.1.2.length = kd := by
  unfold am_kd am_nw
  rw [List.getD_eq_getElem?_getD, List.getElem?_append_right (Nat.le_refl _), Nat.sub_self]
  rfl
theorem am_nw_ln : ((am_nw h kd n).1.2.getD h.1.2.length (99, 0)).2 = n := by
  unfold am_nw
  rw [List.getD_eq_getElem?_getD, List.getElem?_append_right (Nat.le_refl _), Nat.sub_self]
  rfl
theorem am_nw_I (j : Int) : (am_nw h kd n).2.1 h.1.2.length j = 0 := by show (if h.1.2.length = h.1.2.length then 0 else _) = _; rw [if_pos rfl]
theorem am_nw_L (j : Int) : (am_nw h kd n).2.2.1 h.1.2.length j = 0 := by show (if h.1.2.length = h.1.2.length then 0 else _) = _; rw [if_pos rfl]
theorem am_nw_R (j : Int) : (am_nw h kd n).2.2.2 h.1.2.length j = none := by show (if h.1.2.length = h.1.2.length then none else _) = _; rw [if_pos rfl]
theorem am_okh_nw (hh : am_okh h) (hn : n ≤ 4096) : am_okh (am_nw h kd n) := by
  refine ⟨fun a j => ?_, fun a j => ?_, fun q hq => ?_⟩
  · show am_in (if a = h.1.2.length then 0 else h.2.1 a j)
    split
    · unfold am_in; omega
    · exact hh.1 a j
  · show am_inl (if a = h.1.2.length then 0 else h.2.2.1 a j)
    split
    · unfold am_inl; omega
    · exact hh.2.1 a j
  · rcases List.mem_append.mp hq with z | z
    · exact hh.2.2 q z
    · rw [List.mem_singleton.mp z]; exact hn
end
section
variable {p : Program} {l : Launch} {e : Env} {R : Room} {s : State} {m : MethodId} {args : Array Value} {below : List Frame} {meth : Method} {c : Code} {Q : State → Prop}
variable {D : va_G} {cy : Nat → ClassId} {b aS n0 z0 : Nat} {tg : Bool} {i : Nat} {pc : Nat} {L : List (Option am_V)} {S : List am_V} {h : am_H}
/-- what the room says of the heap's size -/
theorem am_sized {H : Heap} {locs : List Loc} {cells slots : Nat} {g : JFrame} (k : H.size ≤ s.heap.size + cells → W p l e R s m args below meth c H locs cells slots Q g) : W p l e R s m args below meth c H locs cells slots Q g := by
  intro T hT X
  refine k ?_ T hT X
  have := X.same.2.2.1
  rw [← hT]
  exact this
theorem am_alloc (F : am_fx p l e R s m args below meth c D cy b aS n0 tg i) (ht : tg = true) {kd n q : Nat} {E : va_E} {ls : Array Slot} {H H1 : Heap} {locs : List Loc} {cells slots : Nat} (P : am_pt s D cy b aS n0 z0 tg i L S h ls H locs cells slots) (hn : n ≤ 4096) (hE : E = am_ce cy b aS (am_nw h kd n) h.1.2.length)
    (hP1 : va_P D vwCl (am_ws cy b aS h ++ [(q, E)]) H1) (hD1 : va_D (am_A b n0 tg) (am_ws cy b aS h ++ [(q, E)])) (hS1 : va_S (am_A b n0 tg) s.heap H1 locs) (kk : am_Gd p l e R s m args below meth c Q D cy b aS n0 z0 tg i pc L (.inr (.inr (.inl (some h.1.2.length))) :: S) (am_nw h kd n)) : W p l e R s m args below meth c H1 locs (cells + 1) (slots + n) Q (F0 m pc ls (.ref q :: S.map (am_cv b aS))) := by
  refine am_sized fun hz => ?_
  obtain ⟨hL, hS, hh, hP, hSS, hc1, hc2, hg, hnn⟩ := P
  have hsz : s.heap.size = b + n0 := F.2.2.2.2.2.2.2.2.2.2.2.2.2.2.1 ht
  have hlast : (am_ws cy b aS h ++ [(q, E)])[h.1.2.length]? = some (q, E) := by
    rw [List.getElem?_append_right (by rw [am_ws_len]; exact Nat.le_refl _), am_ws_len, Nat.sub_self]; rfl
  have hq : q < H1.size := (hP1 _ _ hlast).lt
  have hA : b ≤ q := (hD1.2 _ _ hlast).1
  have hqe : q = b + h.1.2.length := by
    rcases Nat.lt_or_ge q (b + h.1.2.length) with z | z
    · exfalso
      have h1 : (am_ws cy b aS h ++ [(q, E)])[q - b]? = some (b + (q - b), am_ce cy b aS h (q - b)) := by
        rw [List.getElem?_append_left (by rw [am_ws_len]; omega), am_ws_get (by omega)]
      have := hD1.1 _ _ _ _ h1 hlast (by show b + (q - b) = q; omega)
      omega
    · omega
  subst hqe
  rw [hE, ← am_ws_nw] at hP1
  have e : (am_nw h kd n).1.2.length = h.1.2.length + 1 := by simp [am_nw]
  refine kk _ _ _ _ _ ⟨hL, am_ok1 trivial hS, am_okh_nw hh hn, hP1, hS1, by omega, ?_, hg, fun z => ?_⟩
  · show slots + n + z0 = am_sz (h.1.2 ++ [(kd, n)])
    rw [am_sz_app, ← hc2]
    simp [am_sz]; omega
  · rw [ht] at z; cases z
theorem am_hA (ht : tg = true) (F : am_fx p l e R s m args below meth c D cy b aS n0 tg i) : ∀ q, s.heap.size ≤ q → am_A b n0 tg q := by
  intro q hq
  have hsz : s.heap.size = b + n0 := F.2.2.2.2.2.2.2.2.2.2.2.2.2.2.1 ht
  exact ⟨by omega, Or.inl ht⟩
theorem sn_new (F : am_fx p l e R s m args below meth c D cy b aS n0 tg i) {idx ci n : Nat} (hd : decode (am_c i) pc = .ok (.new idx, 3)) (ho : am_nl.any (fun z => Nat.beq z.1 (am_k i) && Nat.beq z.2.1 idx && Nat.beq z.2.2.1 ci) = true) (hn : (am_lay ci).length = n) (hr : h.1.2.length + 1 ≤ R.cells + n0 ∧ am_sz h.1.2 + n ≤ R.slots + z0) (ht : h.1.1 = true) (kk : am_Gd p l e R s m args below meth c Q D cy b aS n0 z0 tg i (pc + 3) L (.inr (.inr (.inl (some h.1.2.length))) :: S) (am_nw h ci n)) : am_Gd p l e R s m args below meth c Q D cy b aS n0 z0 tg i pc L S h := by
  intro ls H locs cells slots P
  have htg : tg = true := P.2.2.2.2.2.2.2.1 ▸ ht
  have F' := F
  obtain ⟨hx, hb, hml, hown, hts, hK, hlocks, hrr, hname, hnst, hAO, hi, -⟩ := F
  obtain ⟨z, hz, hz2⟩ := am_any_nat ho
  simp only [Bool.and_eq_true] at hz2
  obtain ⟨⟨e1, e2⟩, e3⟩ := hz2
  have e1 := Nat.eq_of_beq_eq_true e1
  have e2 := Nat.eq_of_beq_eq_true e2
  have e3 := Nat.eq_of_beq_eq_true e3
  have hzk := List.all_eq_true.mp am_nl_ok z hz
  rw [e3, e1, e2] at hzk
  cases hv : vwCl[ci]? with
  | none => rw [hv] at hzk; cases hzk
  | some q =>
    obtain ⟨C, T, N⟩ := q
    rw [hv] at hzk
    simp only [Bool.and_eq_true, decide_eq_true_eq] at hzk
    obtain ⟨⟨⟨g1, g2⟩, g3⟩, g4⟩ := hzk
    rw [am_nm_y hi] at g2
    obtain ⟨ty0, hty, hdf⟩ := am_dT hv
    have hN : N = n := by
      rw [← hn]
      have key : ∀ z ∈ (List.range 12).zip vwCl, z.2.2.2 = (am_lay z.1).length := by decide +kernel
      refine key (ci, (C, T, N)) (List.mem_of_getElem? (i := ci) ?_)
      rw [List.getElem?_zip_eq_some]
      exact ⟨by simp [g1], hv⟩
    subst hN
    have hn80 : N ≤ 4096 := by
      have key : ∀ z ∈ vwCl, z.2.2 ≤ 4096 := by decide +kernel
      exact key _ (List.mem_of_getElem? hv)
    refine va_new (ty := ty0) (fs := am_fs b aS (am_nw h ci N) h.1.2.length 0 (am_lay ci)) hx hb hts (am_ui hv) hty hown (hts _ (am_hw_in g2)) (hts _ (am_hw_in g3)) (hts _ (am_hw_in g4)) hK P.2.2.2.1 P.dj P.2.2.2.2.1 (am_hA htg F') hv (fun j hj => ?_) (by have := P.2.2.2.2.2.1; omega) (by have := P.2.2.2.2.2.2.1; omega) hd (fun q H1 p1 p2 p3 => am_alloc F' htg P hn80 ?_ p1 p2 p3 kk)
    · rw [hdf j hj]
      unfold vp_V
      rw [List.getD_eq_getElem?_getD, am_fs_get, Nat.zero_add]
      have hj' : j < (am_lay ci).length := by omega
      obtain ⟨ty, hty'⟩ : ∃ ty, (am_lay ci)[j]? = some ty := ⟨_, List.getElem?_eq_getElem hj'⟩
      have h4 := am_lay4 ci g1 ty (List.mem_of_getElem? hty')
      rw [hty']
      match ty, h4 with
      | 0, _ => show Value.int 0 = .int (Int32.ofInt ((am_nw h ci N).2.1 h.1.2.length j)); rw [am_nw_I]; rfl
      | 1, _ => show Value.int 0 = .int (Int32.ofInt ((am_nw h ci N).2.1 h.1.2.length j)); rw [am_nw_I]; rfl
      | 2, _ => show Value.long 0 = .long (Int64.ofInt ((am_nw h ci N).2.2.1 h.1.2.length j)); rw [am_nw_L]; rfl
      | 3, _ => show Value.null = va_rf (((am_nw h ci N).2.2.2 h.1.2.length j).map (b + ·)); rw [am_nw_R]; rfl
    · rw [am_ce_obj am_nw_kd g1]
theorem am_cAeq {cA : ClassId} {kd : Nat} {ty : FieldType} (hK : va_K D vwCl (am_ty cy) s) (hK2 : va_K D vwCl (am_ty cy ++ [(cA, ty)]) s) {t0 : Nat} (ht : (am_ty cy)[t0]? = some (cy kd, ty)) : cA = cy kd := by
  have h1 := (hK.2 t0 _ ht).2
  have h2 := (hK2.2 5 (cA, ty) rfl).2
  cases ty <;> first
    | exact Option.some.inj (h2.symm.trans h1)
    | (obtain ⟨_, _, _, _, _, q1⟩ := h1; obtain ⟨_, _, _, _, _, q2⟩ := h2; exact Option.some.inj (q2.symm.trans q1))
theorem sn_newarray (F : am_fx p l e R s m args below meth c D cy b aS n0 tg i) {t : ArrayType} {kd : Nat} {n : Int} (hd : decode (am_c i) pc = .ok (.newarray t, 2)) (hk : kd = am_atk t ∧ kd ≠ 0) (hr : h.1.2.length + 1 ≤ R.cells + n0 ∧ am_sz h.1.2 + n.toNat ≤ R.slots + z0) (ht : h.1.1 = true ∧ 0 ≤ n ∧ n ≤ 4096) (kk : am_Gd p l e R s m args below meth c Q D cy b aS n0 z0 tg i (pc + 2) L (.inr (.inr (.inl (some h.1.2.length))) :: S) (am_nw h kd n.toNat)) : am_Gd p l e R s m args below meth c Q D cy b aS n0 z0 tg i pc L (.inl n :: S) h := by
  intro ls H locs cells slots P
  have htg : tg = true := P.2.2.2.2.2.2.2.1 ▸ ht.1
  have F' := F
  obtain ⟨hx, hb, hml, hown, hts, hK, -⟩ := F
  obtain ⟨o1, o2⟩ := am_ok2 P.2.1
  have P' := P.st o2
  have hneg : ¬ Int32.ofInt n < 0 := fun q => by have := (am_lt0 (k := 0) o1 (by unfold am_in; omega)).mp q; omega
  have hcl : (Int32.ofInt n).toNatClampNeg = n.toNat := am_clamp o1
  have hnn : n.toNat ≤ 4096 := by omega
  have r1 : cells + 1 ≤ R.cells := by have := P.2.2.2.2.2.1; omega
  have r2 : slots + n.toNat ≤ R.slots := by have := P.2.2.2.2.2.2.1; omega
  have z1 : (fun j : Nat => Int32.ofInt ((am_nw h kd n.toNat).2.1 h.1.2.length (j : Int))) = fun _ => 0 := by funext j; rw [am_nw_I]; rfl
  have z2 : (fun j : Nat => Int64.ofInt ((am_nw h kd n.toNat).2.2.1 h.1.2.length (j : Int))) = fun _ => 0 := by funext j; rw [am_nw_L]; rfl
  have bnd : ∀ ty : FieldType, componentBytes ty ≤ 8 → n.toNat * componentBytes ty ≤ 536870912 := fun ty hty => by
    have := Nat.mul_le_mul hnn hty; omega
  cases t
  case int =>
    obtain rfl : kd = 13 := hk.1
    exact va_newa (atype := .int) (a0 := (n.toNat, .inl fun _ => 0)) hx hb (hts _ am_w_arri) rfl hK P.2.2.2.1 P'.dj P.2.2.2.2.1 (am_hA htg F') (fun _ => rfl) hneg hcl (bnd .int (by decide)) r1 r2 hd fun q cA H1 k2 p1 p2 p3 => am_alloc F' htg P' hnn (by rw [am_ce_int am_nw_kd (by omega), z1, am_nw_ln, am_cAeq hK k2 (t0 := 1) rfl]) p1 p2 p3 kk
  case byte =>
    obtain rfl : kd = 12 := hk.1
    exact va_newa (atype := .byte) (a0 := (n.toNat, .inl fun _ => 0)) hx hb (hts _ am_w_arrb) rfl hK P.2.2.2.1 P'.dj P.2.2.2.2.1 (am_hA htg F') (fun _ => rfl) hneg hcl (bnd .byte (by decide)) r1 r2 hd fun q cA H1 k2 p1 p2 p3 => am_alloc F' htg P' hnn (by rw [am_ce_int am_nw_kd (by omega), z1, am_nw_ln, am_cAeq hK k2 (t0 := 0) rfl]) p1 p2 p3 kk
  case boolean =>
    obtain rfl : kd = 15 := hk.1
    exact va_newa (atype := .boolean) (a0 := (n.toNat, .inl fun _ => 0)) hx hb (hts _ am_w_arrz) rfl hK P.2.2.2.1 P'.dj P.2.2.2.2.1 (am_hA htg F') (fun _ => rfl) hneg hcl (bnd .boolean (by decide)) r1 r2 hd fun q cA H1 k2 p1 p2 p3 => am_alloc F' htg P' hnn (by rw [am_ce_int am_nw_kd (by omega), z1, am_nw_ln, am_cAeq hK k2 (t0 := 3) rfl]) p1 p2 p3 kk
  case long =>
    obtain rfl : kd = 14 := hk.1
    exact va_newa (atype := .long) (a0 := (n.toNat, .inr (.inl fun _ => 0))) hx hb (hts _ am_w_arrl) rfl hK P.2.2.2.1 P'.dj P.2.2.2.2.1 (am_hA htg F') (fun _ => rfl) hneg hcl (bnd .long (by decide)) r1 r2 hd fun q cA H1 k2 p1 p2 p3 => am_alloc F' htg P' hnn (by rw [am_ce_long am_nw_kd, z2, am_nw_ln, am_cAeq hK k2 (t0 := 2) rfl]) p1 p2 p3 kk
  all_goals exact absurd hk.1 hk.2
theorem sn_anew (F : am_fx p l e R s m args below meth c D cy b aS n0 tg i) {idx : Nat} {n : Int} (hd : decode (am_c i) pc = .ok (.anewarray idx, 3)) (ho : am_nl.any (fun z => Nat.beq z.1 (am_k i) && Nat.beq z.2.1 idx && Nat.beq z.2.2.1 6) = true) (hr : h.1.2.length + 1 ≤ R.cells + n0 ∧ am_sz h.1.2 + n.toNat ≤ R.slots + z0) (ht : h.1.1 = true ∧ 0 ≤ n ∧ n ≤ 4096) (kk : am_Gd p l e R s m args below meth c Q D cy b aS n0 z0 tg i (pc + 3) L (.inr (.inr (.inl (some h.1.2.length))) :: S) (am_nw h 16 n.toNat)) : am_Gd p l e R s m args below meth c Q D cy b aS n0 z0 tg i pc L (.inl n :: S) h := by
  intro ls H locs cells slots P
  have htg : tg = true := P.2.2.2.2.2.2.2.1 ▸ ht.1
  have F' := F
  obtain ⟨hx, hb, hml, hown, hts, hK, hlocks, hrr, hname, hnst, hAO, hi, -⟩ := F
  obtain ⟨o1, o2⟩ := am_ok2 P.2.1
  have P' := P.st o2
  have hneg : ¬ Int32.ofInt n < 0 := fun q => by have := (am_lt0 (k := 0) o1 (by unfold am_in; omega)).mp q; omega
  have hcl : (Int32.ofInt n).toNatClampNeg = n.toNat := am_clamp o1
  have hnn : n.toNat ≤ 4096 := by omega
  have r1 : cells + 1 ≤ R.cells := by have := P.2.2.2.2.2.1; omega
  have r2 : slots + n.toNat ≤ R.slots := by have := P.2.2.2.2.2.2.1; omega
  obtain ⟨z, hz, hz2⟩ := am_any_nat ho
  simp only [Bool.and_eq_true] at hz2
  obtain ⟨⟨e1, e2⟩, e3⟩ := hz2
  have e1 := Nat.eq_of_beq_eq_true e1
  have e2 := Nat.eq_of_beq_eq_true e2
  have e3 := Nat.eq_of_beq_eq_true e3
  have hzk := List.all_eq_true.mp am_nl_ok z hz
  rw [e3, e1, e2] at hzk
  have hzk2 : (decide (6 < 12) && am_hw z.2.2.2.1 (.classLink (am_nm (am_k i)) idx RX6) && am_hw z.2.2.2.2.1 (.instantiable RX6 9) && am_hw z.2.2.2.2.2 (.initialized RX6)) = true := hzk
  simp only [Bool.and_eq_true] at hzk2
  obtain ⟨⟨⟨g1, g2⟩, g3⟩, g4⟩ := hzk2
  rw [am_nm_y hi] at g2
  have z1 : (fun j : Nat => ((am_nw h 16 n.toNat).2.2.2 h.1.2.length (j : Int)).map (b + ·)) = fun _ => none := by funext j; rw [am_nw_R]; rfl
  exact va_newq hx hb hown (hts _ (am_hw_in g2)) hAO hK P.2.2.2.1 P'.dj P.2.2.2.2.1 (am_hA htg F') hneg hcl (by omega) r1 r2 hd fun q cA H1 k2 p1 p2 p3 => am_alloc F' htg P' hnn (by rw [am_ce_ref am_nw_kd, z1, am_nw_ln, am_cAeq hK k2 (t0 := 4) rfl]) p1 p2 p3 kk
end
