/-! b3: the rows of the law -/
def lw_fx (p : Program) (s : State) (m : MethodId) (meth : Method) (c : Code) (D : va_G) (cy : Nat → ClassId) (b0 L : Nat) (xs : Nat → Int32) : Prop :=
  p.tables.exec = Jvm.exec ∧ c.code = code ∧ c.maxLocals = 7 ∧ s.vm.findClass RL = some m.cls ∧ (∀ w ∈ am_tw, w.before #[Value.ref b0] s = true) ∧ va_K D vwCl (am_ty cy) s ∧ meth.locks = false ∧ meth.sig.returnType = ret ∧ (∀ w ∈ am_nst, va_Nw w s) ∧ va_AO RX6 s ∧ va_X b0 L xs s s.heap ∧ b0 < s.heap.size ∧ L ≤ 3072
/-- a point of the law's loop: the world of both, the row for the amount, room -/
def lw_pt (s : State) (D : va_G) (cy : Nat → ClassId) (aS b0 k : Nat) (h : am_H) (ls : Array Slot) (H : Heap) (locs : List Loc) (cells slots : Nat) : Prop :=
  lv_has ls 7 [(0, .ref b0), (1, .ref s.heap.size), (2, .ref (s.heap.size + 99)), (3, .ref (s.heap.size + 139)), (4, .int (nI k))] ∧ am_okh h ∧ h.1 = (false, cz_sh) ∧ va_P D vwCl (am_ws cy s.heap.size aS h) H ∧ va_S (fun q => s.heap.size ≤ q) s.heap H locs ∧ (∃ f : Nat → Int64, H[s.heap.size + 139]? = some (vp_cell (cy 14) (1, .inr (.inl f)))) ∧ cells ≤ 200 + k ∧ slots ≤ 20000 + k ∧ k ≤ 4000
def lw_G (p : Program) (l : Launch) (e : Env) (s : State) (m : MethodId) (below : List Frame) (meth : Method) (c : Code) (Q : State → Prop) (D : va_G) (cy : Nat → ClassId) (aS b0 k pc : Nat) (S : List am_V) (h : am_H) : Prop :=
  ∀ (ls : Array Slot) (H : Heap) (locs : List Loc) (cells slots : Nat), lw_pt s D cy aS b0 k h ls H locs cells slots → W p l e room_1 s m #[Value.ref b0] below meth c H locs cells slots Q (F0 m pc ls (S.map (am_cv s.heap.size aS)))
section
variable {p : Program} {l : Launch} {e : Env} {s : State} {m : MethodId} {below : List Frame} {meth : Method} {c : Code} {Q : State → Prop} {D : va_G} {cy : Nat → ClassId} {aS b0 L : Nat} {xs : Nat → Int32} {k pc : Nat} {S : List am_V} {h : am_H}
theorem lg_x (F : lw_fx p s m meth c D cy b0 L xs) (hd : decode code pc = .ok (.aload_n 1, 1)) (kk : lw_G p l e s m below meth c Q D cy aS b0 k (pc + 1) (vR (some 0) :: S) h) : lw_G p l e s m below meth c Q D cy aS b0 k pc S h := by
  intro ls H locs cells slots P
  obtain ⟨hx, hb, -⟩ := id F
  exact lv_aload_n hx hb hd rfl (lv_at P.1 1 rfl) (kk ls H locs cells slots P)
theorem lg_m (F : lw_fx p s m meth c D cy b0 L xs) (hd : decode code pc = .ok (.aload_n 2, 1)) (kk : lw_G p l e s m below meth c Q D cy aS b0 k (pc + 1) (vR (some 99) :: S) h) : lw_G p l e s m below meth c Q D cy aS b0 k pc S h := by
  intro ls H locs cells slots P
  obtain ⟨hx, hb, -⟩ := id F
  exact lv_aload_n hx hb hd rfl (lv_at P.1 2 rfl) (kk ls H locs cells slots P)
theorem lg_a (q : Nat) (F : lw_fx p s m meth c D cy b0 L xs) (hk : k + 5 < L) (hq : q ≤ 5) (d0 : decode code pc = .ok (.aload_n 0, 1)) (d1 : decode code (pc + 1) = .ok (.iload 4, 2)) (d3 : decode code (pc + 3) = .ok (.iconst (q : Int), 1)) (d4 : decode code (pc + 4) = .ok (.iadd, 1)) (d5 : decode code (pc + 5) = .ok (.iaload, 1)) (kk : lw_G p l e s m below meth c Q D cy aS b0 k (pc + 6) (vI (xs (k + q)).toInt :: S) h) : lw_G p l e s m below meth c Q D cy aS b0 k pc S h := by
  intro ls H locs cells slots P
  obtain ⟨hx, hb, hml, hown, hts, hK, hlk, hrt, hnst, hAO, hX, hbl, hL⟩ := id F
  refine lv_aload_n hx hb d0 rfl (lv_at P.1 0 rfl) ?_
  refine lv_iload hx hb d1 (lv_at P.1 4 rfl) ?_
  refine lv_iconst (v := nI q) hx hb d3 ?_ ?_
  · rcases (show q = 0 ∨ q = 1 ∨ q = 2 ∨ q = 3 ∨ q = 4 ∨ q = 5 by omega) with rfl | rfl | rfl | rfl | rfl | rfl <;> rfl
  refine lv_iadd hx hb d4 ?_
  rw [nI_add]
  refine va_sld (A := fun q => s.heap.size ≤ q) hx hb hX hbl (Nat.not_le.mpr hbl) P.2.2.2.2.1 (vp_in_nI (by omega) (by omega)) d5 ?_
  rw [nI_clamp (by omega)]
  have z := kk ls H locs cells slots P
  rw [List.map_cons] at z
  have ez : am_cv s.heap.size aS (vI (xs (k + q)).toInt) = .int (xs (k + q)) := by show Value.int (Int32.ofInt (xs (k + q)).toInt) = _; rw [am_ofI]
  rw [ez] at z
  exact z
/-- '!= 0' -/
theorem lg_b {x : Int} (hx0 : am_in x) (F : lw_fx p s m meth c D cy b0 L xs) (d0 : decode code pc = .ok (.ifCond .eq 7, 3)) (d3 : decode code (pc + 3) = .ok (.iconst 1, 1)) (d4 : decode code (pc + 4) = .ok (.goto 4, 3)) (d7 : decode code (pc + 7) = .ok (.iconst 0, 1)) (kk : lw_G p l e s m below meth c Q D cy aS b0 k (pc + 8) (vI (if x = 0 then 0 else 1) :: S) h) : lw_G p l e s m below meth c Q D cy aS b0 k pc (vI x :: S) h := by
  intro ls H locs cells slots P
  obtain ⟨hx, hb, -⟩ := id F
  have z := kk ls H locs cells slots P
  refine lv_if_eq (tgt := pc + 7) hx hb d0 (by omega) (fun h0 => ?_) (fun h0 => ?_)
  · have x0 : x = 0 := by have := congrArg Int32.toInt h0; rw [am_toI hx0] at this; exact this
    rw [if_pos x0] at z
    exact lv_iconst (v := 0) hx hb d7 (by decide) z
  · have x0 : ¬ x = 0 := fun e => h0 (by rw [e]; rfl)
    rw [if_neg x0] at z
    exact lv_iconst (v := 1) hx hb d3 (by decide) (lv_goto (tgt := pc + 8) hx hb d4 (by omega) z)
end
/-- behind a call, with what it left alone -/
theorem am_ret_call2 {p : Program} {l : Launch} {e : Env} {R : Room} {s : State} {m : MethodId} {args : Array Value} {below : List Frame} {meth : Method} {c : Code} {Q : State → Prop} {D : va_G} {cy : Nat → ClassId} {b aS pc : Nat} {H : Heap} {locs : List Loc} {cells slots mc ms : Nat} {ls : Array Slot} {st0 rest : List Value} {r1 : Option am_V} {h1 : am_H} {a : Array Value} {free A0 A1 : Nat → Prop} (hr : va_Run p l e R s m args below meth c H locs cells slots mc ms (F0 m pc ls st0) rest (am_Qc D cy b aS A1 r1 h1 a) free) (hS : va_S A0 s.heap H locs) (hA : ∀ q, A1 q → A0 q) (hf : ∀ q, free q → A0 q)
    (kk : ∀ (H1 : Heap) (locs1 : List Loc), va_P D vwCl (am_ws cy b aS h1) H1 → va_S A0 s.heap H1 locs1 → (∀ q : Nat, q < H.size → ¬ A1 q → H1[q]? = H[q]?) → W p l e R s m args below meth c H1 locs1 (cells + mc) (slots + ms) Q (F0 m (pc + 3) ls ((r1.map (am_cv b aS)).toList ++ rest))) : W p l e R s m args below meth c H locs cells slots Q (F0 m pc ls st0) := by
  intro T hT X
  obtain ⟨v, st₀, t, T', L, h0, X', hL, e1, e2, ⟨⟨hv, hp⟩, hz, hk⟩, st⟩ := hr T hT X
  cases hv
  rw [h0] at hz hk
  obtain ⟨t2, a1, b1⟩ := kk T'.heap (locs ++ L) (by rw [e1]; exact hp) ⟨Nat.le_trans hS.1 (by rw [e1]; exact hz), fun q h1 h2 => by rw [e1, hk q (Nat.lt_of_lt_of_le h1 hS.1) (fun z => h2 (hA q z))]; exact hS.2.1 q h1 h2, fun q hq => by
      rcases List.mem_append.mp hq with h | h
      · exact hS.2.2 q h
      · exact hf _ (hL q h)⟩ (fun q hq hn => by rw [e1]; exact hk q hq hn) T' rfl X'
  exact ⟨t2, st t2 a1, b1⟩
theorem am_XX0 {l : Launch} {b aS : Nat} : am_XX l (fun _ => False) b aS := ⟨fun _ _ _ _ h => h, fun _ h => h.elim, fun _ _ _ _ _ _ _ _ _ _ _ _ _ _ _ _ _ _ h => h.elim⟩
section
variable {p : Program} {l : Launch} {e : Env} {s : State} {m : MethodId} {below : List Frame} {meth : Method} {c : Code} {Q : State → Prop} {D : va_G} {cy : Nat → ClassId} {aS b0 L : Nat} {xs : Nat → Int32} {k pc : Nat} {S : List am_V} {h : am_H}
theorem lg_call {idx j a d n : Nat} {as : List am_V} {r : Option am_V} {h' : am_H} (F : lw_fx p s m meth c D cy b0 L xs) (hd : decode code pc = .ok (.invokevirtual idx, 3)) (hl : Cond.methodLink RL idx (am_y j) ∈ am_tw) (hj : j < 281) (hkn : am_kn j = 0) (hnp : as.length = am_np j) (hka : cz_sh[a]? = some (am_k j, 0) ∨ ∃ z, cz_sh[a]? = some (am_k j, z)) (hk12 : am_k j < 12) (hcw : am_cw (vR (some a) :: as) ≤ am_mx j) (hS : am_cw S ≤ 8) (has : ∀ v ∈ as, am_okv v) (hd20 : d ≤ 30) (hr : am_run n d j 0 (am_en j (vR (some a) :: as)) [] h = some (r, h'))
    (kk : lw_G p l e s m below meth c Q D cy aS b0 k (pc + 3) (r.toList ++ S) h') : lw_G p l e s m below meth c Q D cy aS b0 k pc (as.reverse ++ vR (some a) :: S) h := by
  intro ls H locs cells slots P
  obtain ⟨hx, hb, hml, hown, hts, hK, hlk, hrt, hnst, hAO, hX, hbl, hL⟩ := id F
  obtain ⟨pl, pok, ph, pP, pS, ⟨f, po⟩, pc1, pc2, pc3⟩ := P
  have hka : ∃ z, cz_sh[a]? = some (am_k j, z) := by rcases hka with q | q; exact ⟨0, q⟩; exact q
  obtain ⟨z, hka⟩ := hka
  have hlt : a < h.1.2.length := by rw [ph]; exact (List.getElem?_eq_some_iff.mp hka).1
  have hkd : am_kd h a = am_k j := by unfold am_kd; rw [ph, List.getD_eq_getElem?_getD, hka]; rfl
  have hasA : ∀ v ∈ vR (some a) :: as, am_okv v := am_ok1 (show am_okv (vR (some a)) from trivial) has
  obtain ⟨g1, g2, g3⟩ := am_run_inv n d j 0 (am_en j (vR (some a) :: as)) [] h r h' hj hr (am_okL_en hasA) (fun v hv => by cases hv) pok
  have g4 : h'.1 = h.1 := g1.2.2.2 (by rw [ph])
  obtain ⟨mc, ms, hM, hm1, hm2⟩ := am_sound (X := fun _ => False) (D := D) (cy := cy) (b := s.heap.size) (aS := aS) (l := l) am_XX0 d n j (vR (some a) :: as) h r h' hj hr hasA pok hcw
  obtain rfl : mc = 0 := by rw [g4] at hm1; omega
  obtain rfl : ms = 0 := by rw [g4] at hm2; omega
  obtain ⟨w1, w2, w3, w4, w5, w6, w7, w8, w9, w10⟩ := am_okj hj
  have hcls : ∃ T N, vwCl[am_k j]? = some ((am_y j).cls, T, N) := by
    have key : ∀ ci, ci < 12 → (vwCl[ci]?).map (fun q => q.1) = some (am_nm ci) := by decide +kernel
    have := key (am_k j) hk12
    rw [w10] at this
    cases hv : vwCl[am_k j]? with
    | none => rw [hv] at this; cases this
    | some q => obtain ⟨C, T, N⟩ := q; rw [hv] at this; simp at this; exact ⟨T, N, by rw [this]⟩
  obtain ⟨T, N, hv⟩ := hcls
  have hst : (as.reverse ++ (Sum.inr (Sum.inr (Sum.inl (some a))) : am_V) :: S).map (am_cv s.heap.size aS) = (as.map (am_cv s.heap.size aS)).reverse ++ .ref (s.heap.size + a) :: S.map (am_cv s.heap.size aS) := by simp [am_cv, va_rf]
  rw [hst]
  have h139 : h.1.2.length = 139 := by rw [ph]; rfl
  have hfr : d + 1 + 1 ≤ room_1.frames := by show d + 1 + 1 ≤ 2048; omega
  refine am_ret_call2 (A0 := fun q => s.heap.size ≤ q) (va_runV (C := (am_y j).cls) (As := as.map (am_cv s.heap.size aS)) (b := s.heap.size + a) (n := am_np j) ⟨hx, hb, hml, hown, hts⟩ hM ⟨callB_of (am_np j) hts (am_wj_good hj) rfl rfl rfl (hts _ w2) (hts _ hl) w6 ⟨hfr, by show 8 + (am_mx j + 11) + 64 * (d + 1) ≤ 84000; omega⟩, hts _ (w4 (by rw [hkn]; decide)), hts _ (w5 hkn)⟩ ⟨am_Pc_blind (fun _ _ _ _ h => h), va_recv hK pP hv ((am_ws_get hlt).trans (by rw [am_ce_obj hkd hk12])), fun U hU hW => ⟨rfl, by rw [hU]; exact pP, va_K.moved hW.alike hK, am_nst_warm hW hnst, va_AO.moved hW.alike hAO, fun z => by rw [ph] at z; cases z⟩⟩ rfl (by rw [List.length_map]; exact hnp) pl.1 rfl (lv_room (by rw [am_cat_sum]; exact hS)) hd ⟨by show cells + 0 ≤ 601024; omega, by show slots + 0 ≤ 7293034; omega⟩) pS (fun q hq => hq.1) (fun q hq => hq.1) fun H1 locs1 p1 p2 p3 => ?_
  rw [am_toList_map]
  refine kk _ _ _ _ _ ⟨pl, g2, g4.trans ph, p1, p2, ⟨f, ?_⟩, pc1, pc2, pc3⟩
  rw [p3 (s.heap.size + 139) (Array.getElem?_eq_some_iff.mp po).1 (fun hq => by have := hq.2; rw [ph] at this; rcases this with q | q; cases q; rw [← ph, h139] at q; omega)]; exact po
end
