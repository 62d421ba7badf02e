/-! the instructions that read and write cells -/
theorem am_any_nat {α : Type} {l : List α} {f : α → Bool} (h : l.any f = true) : ∃ z ∈ l, f z = true := by
  simpa using List.any_eq_true.mp h
theorem am_nm_y {i : Nat} (hi : i < 281) : am_nm (am_k i) = (am_y i).cls := (am_okj hi).2.2.2.2.2.2.2.2.2
/-- what a field's check gives -/
theorem am_fok_of {i idx ci k ty : Nat} {put : Bool} (hi : i < 281) (h : am_fok i idx [ci, k, ty] put = true) : ∃ (C : String) (T : u_T) (N : Nat), vwCl[ci]? = some (C, T, N) ∧ ci < 12 ∧ k < N ∧ (am_lay ci)[k]? = some ty ∧ (am_lay ci).length = N ∧ Cond.fieldLink (am_y i).cls idx (T k).1 (T k).2.1 (T k).2.2.1 ∈ am_tw ∧
    (put = true → (((T k).2.2.2 = false ∨ ((T k).2.2.2 = true ∧ (am_y i).name = "<init>" ∧ am_k i = ci)) ∧ ∃ ft, parseFieldDescriptor (T k).2.2.1 = some ft ∧ ((ft = .int ∧ ty = 0) ∨ (ft = .boolean ∧ ty = 1) ∨ (ft = .long ∧ ty = 2) ∨ ((∃ o, ft = .object o) ∧ ty = 3) ∨ ((∃ o, ft = .array o) ∧ ty = 3)))) := by
  unfold am_fok at h
  simp only [Bool.and_eq_true, decide_eq_true_eq] at h
  obtain ⟨⟨⟨h0, h1⟩, h2⟩, h3⟩ := h
  obtain ⟨z, hz, hz2⟩ := am_any_nat h1
  simp only [Bool.and_eq_true] at hz2
  obtain ⟨⟨e1, e2⟩, e3⟩ := hz2
  have e1 := Nat.eq_of_beq_eq_true e1
  have e2 := Nat.eq_of_beq_eq_true e2
  have e3 := Nat.eq_of_beq_eq_true e3
  have hk := am_flk_ok h0 hz
  unfold am_flk at hk
  rw [e2, e3, e1] at hk
  cases hv : vwCl[ci]? with
  | none => rw [hv] at hk; cases hk
  | some q =>
    obtain ⟨C, T, N⟩ := q
    rw [hv] at hk h3
    simp only [Bool.and_eq_true, decide_eq_true_eq] at hk
    obtain ⟨⟨⟨g1, g2⟩, g3⟩, g4⟩ := hk
    refine ⟨C, T, N, rfl, g1, g2, h2, g3, ?_, fun hp => ?_⟩
    · rw [← am_nm_y hi]; exact am_hw_in g4
    · subst hp
      simp only [Bool.not_true, Bool.false_or, Bool.and_eq_true, Bool.or_eq_true, Bool.not_eq_true', decide_eq_true_eq] at h3
      obtain ⟨f1, f2⟩ := h3
      refine ⟨?_, ?_⟩
      · cases hb : (T k).2.2.2
        · exact Or.inl rfl
        · rcases f1 with q | q
          · rw [hb] at q; cases q
          · exact Or.inr ⟨rfl, q.1, q.2⟩
      · cases hpd : parseFieldDescriptor (T k).2.2.1 with
        | none => rw [hpd] at f2; cases f2
        | some ft =>
          rw [hpd] at f2
          refine ⟨ft, rfl, ?_⟩
          cases ft <;> first | (cases f2; done) | (have f3 := Nat.eq_of_beq_eq_true f2; simp [f3])
theorem am_ui {ci : Nat} {C : String} {T : u_T} {N : Nat} (h : vwCl[ci]? = some (C, T, N)) : ∀ w ∈ u_ws C T N, w ∈ am_tw := by
  match ci, h with
  | 0, h => cases h; exact am_ui0
  | 1, h => cases h; exact am_ui1
  | 2, h => cases h; exact am_ui2
  | 3, h => cases h; exact am_ui3
  | 4, h => cases h; exact am_ui4
  | 5, h => cases h; exact am_ui5
  | 6, h => cases h; exact am_ui6
  | 7, h => cases h; exact am_ui7
  | 8, h => cases h; exact am_ui8
  | 9, h => cases h; exact am_ui9
  | 10, h => cases h; exact am_ui10
  | 11, h => cases h; exact am_ui11
  | k + 12, h => simp [vwCl] at h
theorem am_nmT {ci : Nat} {C : String} {T : u_T} {N : Nat} (h : vwCl[ci]? = some (C, T, N)) : ∀ a, a < N → ∀ b, b < N → a ≠ b → (T a).2.1 ≠ (T b).2.1 := by
  match ci, h with
  | 0, h => cases h; exact nmX0
  | 1, h => cases h; exact nmX1
  | 2, h => cases h; exact nmX2
  | 3, h => cases h; exact nmX3
  | 4, h => cases h; exact nmX4
  | 5, h => cases h; exact nmX5
  | 6, h => cases h; exact nmX6
  | 7, h => cases h; exact nmX7
  | 8, h => cases h; exact nmX8
  | 9, h => cases h; exact nmX9
  | 10, h => cases h; exact nmX10
  | 11, h => cases h; exact nmX11
  | k + 12, h => simp [vwCl] at h
theorem am_tyT {ci : Nat} {C : String} {T : u_T} {N : Nat} (h : vwCl[ci]? = some (C, T, N)) : ∃ ty0 : Nat → FieldType, ∀ k, k < N → parseFieldDescriptor (T k).2.2.1 = some (ty0 k) := by
  match ci, h with
  | 0, h => cases h; exact ⟨_, tyX0_ok⟩
  | 1, h => cases h; exact ⟨_, tyX1_ok⟩
  | 2, h => cases h; exact ⟨_, tyX2_ok⟩
  | 3, h => cases h; exact ⟨_, tyX3_ok⟩
  | 4, h => cases h; exact ⟨_, tyX4_ok⟩
  | 5, h => cases h; exact ⟨_, tyX5_ok⟩
  | 6, h => cases h; exact ⟨_, tyX6_ok⟩
  | 7, h => cases h; exact ⟨_, tyX7_ok⟩
  | 8, h => cases h; exact ⟨_, tyX8_ok⟩
  | 9, h => cases h; exact ⟨_, tyX9_ok⟩
  | 10, h => cases h; exact ⟨_, tyX10_ok⟩
  | 11, h => cases h; exact ⟨_, tyX11_ok⟩
  | k + 12, h => simp [vwCl] at h
/-- a field is declared by its class -/
theorem am_dcl {ci : Nat} {C : String} {T : u_T} {N : Nat} (h : vwCl[ci]? = some (C, T, N)) {k : Nat} (hk : k < N) : (T k).1 = am_nm ci := by
  have key : ∀ z ∈ (List.range 12).zip vwCl, ∀ k, k < z.2.2.2 → (z.2.2.1 k).1 = am_nm z.1 := by decide +kernel
  have hl : ci < 12 := (List.getElem?_eq_some_iff.mp h).1
  refine key (ci, (C, T, N)) ?_ k hk
  refine List.mem_of_getElem? (i := ci) ?_
  rw [List.getElem?_zip_eq_some]
  exact ⟨by simp [hl], h⟩
theorem am_okh_sI {h : am_H} {a : Nat} {j v : Int} (hh : am_okh h) (hv : am_in v) : am_okh (am_sI h a j v) := by
  refine ⟨fun c q => ?_, hh.2⟩
  show am_in (am_up h.2.1 a j v c q)
  unfold am_up; split
  · exact hv
  · exact hh.1 c q
theorem am_okh_sL {h : am_H} {a : Nat} {j v : Int} (hh : am_okh h) (hv : am_inl v) : am_okh (am_sL h a j v) := by
  refine ⟨hh.1, fun c q => ?_, hh.2.2⟩
  show am_inl (am_up h.2.2.1 a j v c q)
  unfold am_up; split
  · exact hv
  · exact hh.2.1 c q
theorem am_okh_sR {h : am_H} {a : Nat} {j : Int} {v : Option Nat} (hh : am_okh h) : am_okh (am_sR h a j v) := hh
theorem am_kd_1 {h h' : am_H} (e : h'.1 = h.1) (a : Nat) : am_kd h' a = am_kd h a := by unfold am_kd; rw [e]
section
variable {p : Program} {l : Launch} {e : Env} {R : Room} {s : State} {m : MethodId} {args : Array Value} {below : List Frame} {meth : Method} {c : Code} {Q : State → Prop}
variable {D : va_G} {cy : Nat → ClassId} {b aS n0 z0 : Nat} {tg : Bool} {i : Nat} {pc : Nat} {L : List (Option am_V)} {S : List am_V} {h : am_H}
theorem am_pt.dj {ls : Array Slot} {H : Heap} {locs : List Loc} {cells slots : Nat} (P : am_pt s D cy b aS n0 z0 tg i L S h ls H locs cells slots) : va_D (am_A b n0 tg) (am_ws cy b aS h) := by
  refine am_D (D := D) ?_
  obtain ⟨-, -, -, -, -, -, -, -, h9⟩ := P
  cases tg
  · exact Or.inr (by rw [h9 rfl]; exact Nat.le_refl _)
  · exact Or.inl rfl
/-- the world behind a write -/
theorem am_pt.wr {h' : am_H} {S' : List am_V} {ls : Array Slot} {H H1 : Heap} {locs locs1 : List Loc} {cells slots : Nat} (P : am_pt s D cy b aS n0 z0 tg i L S h ls H locs cells slots) (e1 : h'.1 = h.1) (hS : ∀ v ∈ S', am_okv v) (hh : am_okh h') (hP : va_P D vwCl (am_ws cy b aS h') H1) (hSS : va_S (am_A b n0 tg) s.heap H1 locs1) : am_pt s D cy b aS n0 z0 tg i L S' h' ls H1 locs1 cells slots := by
  obtain ⟨h1, h2, h3, h4, h5, h6, h7, h8, h9⟩ := P
  exact ⟨h1, hS, hh, hP, hSS, by rw [e1]; exact h6, by rw [e1]; exact h7, by rw [e1]; exact h8, by rw [e1]; exact h9⟩
theorem am_gf_ok {a k ty : Nat} (hh : am_okh h) : am_okv (am_gf h a k ty) := by
  unfold am_gf
  split
  · exact hh.1 _ _
  · exact hh.1 _ _
  · exact hh.2.1 _ _
  · trivial
theorem sn_getfield (F : am_fx p l e R s m args below meth c D cy b aS n0 tg i) {idx ci k ty a : Nat} (hd : decode (am_c i) pc = .ok (.getfield idx, 3)) (hf : am_fok i idx [ci, k, ty] false = true) (hk : am_kd h a = ci) (kk : am_Gd p l e R s m args below meth c Q D cy b aS n0 z0 tg i (pc + 3) L (am_gf h a k ty :: S) h) : am_Gd p l e R s m args below meth c Q D cy b aS n0 z0 tg i pc L (.inr (.inr (.inl (some a))) :: S) h := by
  intro ls H locs cells slots P
  obtain ⟨hx, hb, hml, hown, hts, hK, hlocks, hr, hname, hnst, hAO, hi, -⟩ := F
  obtain ⟨C, T, N, hv, hc, hkN, hl, hlN, hw, -⟩ := am_fok_of hi hf
  have hlt : a < h.1.2.length := am_kd_lt hk (by omega)
  refine va_get (q0 := a) hx hb hts (am_ui hv) hown hK P.2.2.2.1 ((am_ws_get hlt).trans (by rw [am_ce_obj hk hc])) hv k hkN (hts _ hw) (fun _ q => q) (v := am_cv b aS (am_gf h a k ty)) ?_ hd (kk _ _ _ _ _ (P.st (am_ok1 (am_gf_ok P.2.2.1) (am_ok2 P.2.1).2)))
  rw [am_fs_get, hl, Nat.zero_add]
  rfl
/-- a field is written -/
theorem sn_putv (F : am_fx p l e R s m args below meth c D cy b aS n0 tg i) {idx ci k ty a : Nat} {v : am_V} {h' : am_H} (hd : decode (am_c i) pc = .ok (.putfield idx, 3)) (hf : am_fok i idx [ci, k, ty] true = true) (hk : am_kd h a = ci) (hfit : ∀ ft, ((ft = .int ∧ ty = 0) ∨ (ft = .boolean ∧ ty = 1) ∨ (ft = .long ∧ ty = 2) ∨ ((∃ o, ft = FieldType.object o) ∧ ty = 3) ∨ ((∃ o, ft = FieldType.array o) ∧ ty = 3)) → narrow ft (am_cv b aS v) = am_cv b aS v ∧ fits ft (am_cv b aS v) = true)
    (e1 : h'.1 = h.1) (e2 : ∀ q, q ≠ a → h'.2.1 q = h.2.1 q) (e3 : ∀ q, q ≠ a → h'.2.2.1 q = h.2.2.1 q) (e4 : ∀ q, q ≠ a → h'.2.2.2 q = h.2.2.2 q) (e5 : am_gf h' a k ty = v) (e6 : ∀ q ty', (am_lay ci)[q]? = some ty' → q ≠ k → am_gf h' a q ty' = am_gf h a q ty') (hok : am_okh h → am_okv v → am_okh h')
    (kk : am_Gd p l e R s m args below meth c Q D cy b aS n0 z0 tg i (pc + 3) L S h') : am_Gd p l e R s m args below meth c Q D cy b aS n0 z0 tg i pc L (v :: .inr (.inr (.inl (some a))) :: S) h := by
  intro ls H locs cells slots P
  obtain ⟨hx, hb, hml, hown, hts, hK, hlocks, hr, hname, hnst, hAO, hi, -⟩ := F
  obtain ⟨C, T, N, hv, hc, hkN, hl, hlN, hw, hp⟩ := am_fok_of hi hf
  obtain ⟨hfin, ft, hpd, hft⟩ := hp rfl
  obtain ⟨hn, hft⟩ := hfit ft hft
  have hlt : a < h.1.2.length := am_kd_lt hk (by omega)
  obtain ⟨o1, o2⟩ := am_ok2 P.2.1
  obtain ⟨-, o3⟩ := am_ok2 o2
  have hws : (am_ws cy b aS h).set a (b + a, .inr (ci, (am_fs b aS h a 0 (am_lay ci)).set k (am_cv b aS v))) = am_ws cy b aS h' := by
    refine am_ws_set e1 e2 e3 e4 ?_
    rw [am_ce_obj (by rw [am_kd_1 e1]; exact hk) hc, am_fs_set hl e5 e6]
  have kk2 : ∀ (H1 : Heap) (locs1 : List Loc), va_P D vwCl ((am_ws cy b aS h).set a (b + a, .inr (ci, (am_fs b aS h a 0 (am_lay ci)).set k (am_cv b aS v)))) H1 → va_D (am_A b n0 tg) ((am_ws cy b aS h).set a (b + a, .inr (ci, (am_fs b aS h a 0 (am_lay ci)).set k (am_cv b aS v)))) → va_S (am_A b n0 tg) s.heap H1 locs1 → W p l e R s m args below meth c H1 locs1 cells slots Q (F0 m (pc + 3) ls (S.map (am_cv b aS))) := by
    intro H1 locs1 p1 _ p3
    rw [hws] at p1
    exact kk _ _ _ _ _ (P.wr e1 o3 (hok P.2.2.1 o1) p1 p3)
  obtain ⟨ty0, hty⟩ := am_tyT hv
  have he : (am_ws cy b aS h)[a]? = some (b + a, .inr (ci, am_fs b aS h a 0 (am_lay ci))) := (am_ws_get hlt).trans (by rw [am_ce_obj hk hc])
  have hlen : k < (am_fs b aS h a 0 (am_lay ci)).length := by rw [am_fs_len, hlN]; exact hkN
  rcases hfin with hfin | ⟨hfin, hi1, hi2⟩
  · exact va_put hx hb hts (am_ui hv) ty0 hty (am_nmT hv) hown hK P.2.2.2.1 P.dj P.2.2.2.2.1 a he hv k hkN (hts _ hw) (fun _ q => q) hfin hpd hn hft hlen hd kk2
  · exact va_putF hx hb hts (am_ui hv) ty0 hty (am_nmT hv) hown hK P.2.2.2.1 P.dj P.2.2.2.2.1 a he hv k hkN (hts _ hw) (fun _ q => q) hfin (hname.trans hi1) ((am_dcl hv hkN).trans (by rw [← hi2]; exact am_nm_y hi)) hpd hn hft hlen hd kk2
theorem am_gf_sI {a k q ty' : Nat} {v : Int} (hq : q ≠ k) : am_gf (am_sI h a k v) a q ty' = am_gf h a q ty' := by
  have e : am_up h.2.1 a (k : Int) v a (q : Int) = h.2.1 a q := by
    unfold am_up; rw [if_neg]; intro z; exact hq (by omega)
  unfold am_gf am_sI
  split <;> first | rfl | exact congrArg Sum.inl e
theorem am_gf_sL {a k q ty' : Nat} {v : Int} (hq : q ≠ k) : am_gf (am_sL h a k v) a q ty' = am_gf h a q ty' := by
  have e : am_up h.2.2.1 a (k : Int) v a (q : Int) = h.2.2.1 a q := by
    unfold am_up; rw [if_neg]; intro z; exact hq (by omega)
  unfold am_gf am_sL
  split <;> first | rfl | exact congrArg (fun z => Sum.inr (Sum.inl z)) e
theorem am_gf_sR {a k q ty' : Nat} {v : Option Nat} (hq : q ≠ k) : am_gf (am_sR h a k v) a q ty' = am_gf h a q ty' := by
  have e : am_up h.2.2.2 a (k : Int) v a (q : Int) = h.2.2.2 a q := by
    unfold am_up; rw [if_neg]; intro z; exact hq (by omega)
  unfold am_gf am_sR
  split <;> first | rfl | exact congrArg (fun z => Sum.inr (Sum.inr (Sum.inl z))) e
theorem am_up_eq {α : Type} (f : Nat → Int → α) (a : Nat) (j : Int) (v : α) : am_up f a j v a j = v := by unfold am_up; rw [if_pos ⟨rfl, rfl⟩]
theorem sn_putI (F : am_fx p l e R s m args below meth c D cy b aS n0 tg i) {idx ci k a : Nat} {v : Int} (hd : decode (am_c i) pc = .ok (.putfield idx, 3)) (hf : am_fok i idx [ci, k, 0] true = true) (hk : am_kd h a = ci) (kk : am_Gd p l e R s m args below meth c Q D cy b aS n0 z0 tg i (pc + 3) L S (am_sI h a k v)) : am_Gd p l e R s m args below meth c Q D cy b aS n0 z0 tg i pc L (.inl v :: .inr (.inr (.inl (some a))) :: S) h :=
  sn_putv (h' := am_sI h a k v) F hd hf hk (fun ft q => by
    rcases q with ⟨rfl, -⟩ | ⟨-, q⟩ | ⟨-, q⟩ | ⟨-, q⟩ | ⟨-, q⟩
    · exact ⟨rfl, rfl⟩
    all_goals exact absurd q (by decide)) rfl (fun q hq => am_up_ne _ _ _ _ hq) (fun _ _ => rfl) (fun _ _ => rfl) (by show (Sum.inl (am_up h.2.1 a k v a k) : am_V) = _; rw [am_up_eq]) (fun q ty' _ hq => am_gf_sI hq) (fun a b => am_okh_sI a b) kk
theorem sn_putZ (F : am_fx p l e R s m args below meth c D cy b aS n0 tg i) {idx ci k a : Nat} {v : Int} (hd : decode (am_c i) pc = .ok (.putfield idx, 3)) (hf : am_fok i idx [ci, k, 1] true = true) (hk : am_kd h a = ci) (hv : v = 0 ∨ v = 1) (kk : am_Gd p l e R s m args below meth c Q D cy b aS n0 z0 tg i (pc + 3) L S (am_sI h a k v)) : am_Gd p l e R s m args below meth c Q D cy b aS n0 z0 tg i pc L (.inl v :: .inr (.inr (.inl (some a))) :: S) h :=
  sn_putv (h' := am_sI h a k v) F hd hf hk (fun ft q => by
    rcases q with ⟨-, q⟩ | ⟨rfl, -⟩ | ⟨-, q⟩ | ⟨-, q⟩ | ⟨-, q⟩
    · exact absurd q (by decide)
    · rcases hv with rfl | rfl
      · exact ⟨(by decide : narrow FieldType.boolean (Value.int (Int32.ofInt 0)) = Value.int (Int32.ofInt 0)), (by decide : fits FieldType.boolean (Value.int (Int32.ofInt 0)) = true)⟩
      · exact ⟨(by decide : narrow FieldType.boolean (Value.int (Int32.ofInt 1)) = Value.int (Int32.ofInt 1)), (by decide : fits FieldType.boolean (Value.int (Int32.ofInt 1)) = true)⟩
    all_goals exact absurd q (by decide)) rfl (fun q hq => am_up_ne _ _ _ _ hq) (fun _ _ => rfl) (fun _ _ => rfl) (by show (Sum.inl (am_up h.2.1 a k v a k) : am_V) = _; rw [am_up_eq]) (fun q ty' _ hq => am_gf_sI hq) (fun a b => am_okh_sI a b) kk
theorem sn_putL (F : am_fx p l e R s m args below meth c D cy b aS n0 tg i) {idx ci k a : Nat} {v : Int} (hd : decode (am_c i) pc = .ok (.putfield idx, 3)) (hf : am_fok i idx [ci, k, 2] true = true) (hk : am_kd h a = ci) (kk : am_Gd p l e R s m args below meth c Q D cy b aS n0 z0 tg i (pc + 3) L S (am_sL h a k v)) : am_Gd p l e R s m args below meth c Q D cy b aS n0 z0 tg i pc L (.inr (.inl v) :: .inr (.inr (.inl (some a))) :: S) h :=
  sn_putv (h' := am_sL h a k v) F hd hf hk (fun ft q => by
    rcases q with ⟨-, q⟩ | ⟨-, q⟩ | ⟨rfl, -⟩ | ⟨-, q⟩ | ⟨-, q⟩
    · exact absurd q (by decide)
    · exact absurd q (by decide)
    · exact ⟨rfl, rfl⟩
    all_goals exact absurd q (by decide)) rfl (fun _ _ => rfl) (fun q hq => am_up_ne _ _ _ _ hq) (fun _ _ => rfl) (by show (Sum.inr (Sum.inl (am_up h.2.2.1 a k v a k)) : am_V) = _; rw [am_up_eq]) (fun q ty' _ hq => am_gf_sL hq) (fun a b => am_okh_sL a b) kk
theorem sn_putR (F : am_fx p l e R s m args below meth c D cy b aS n0 tg i) {idx ci k a : Nat} {v : Option Nat} (hd : decode (am_c i) pc = .ok (.putfield idx, 3)) (hf : am_fok i idx [ci, k, 3] true = true) (hk : am_kd h a = ci) (kk : am_Gd p l e R s m args below meth c Q D cy b aS n0 z0 tg i (pc + 3) L S (am_sR h a k v)) : am_Gd p l e R s m args below meth c Q D cy b aS n0 z0 tg i pc L (.inr (.inr (.inl v)) :: .inr (.inr (.inl (some a))) :: S) h :=
  sn_putv (h' := am_sR h a k v) F hd hf hk (fun ft q => by
    rcases q with ⟨-, q⟩ | ⟨-, q⟩ | ⟨-, q⟩ | ⟨⟨o, rfl⟩, -⟩ | ⟨⟨o, rfl⟩, -⟩
    · exact absurd q (by decide)
    · exact absurd q (by decide)
    · exact absurd q (by decide)
    all_goals cases v <;> exact ⟨rfl, rfl⟩) rfl (fun _ _ => rfl) (fun _ _ => rfl) (fun q hq => am_up_ne _ _ _ _ hq) (by show (Sum.inr (Sum.inr (Sum.inl (am_up h.2.2.2 a k v a k))) : am_V) = _; rw [am_up_eq]) (fun q ty' _ hq => am_gf_sR hq) (fun a _ => am_okh_sR a) kk
end
