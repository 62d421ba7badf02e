/-! calls and returns -/
def am_wj (j : Nat) : List Cond := Cond.code (am_y j) (am_c j) (am_mx j) (am_r j) :: am_tw
def am_rm (d mc ms : Nat) : Room := { frames := d + 1, cells := mc, slots := ms, locals := 64 * (d + 1) }
def am_Pc (X : State → Prop) (D : va_G) (cy : Nat → ClassId) (b aS : Nat) (as : List am_V) (h : am_H) : Array Value → State → Prop :=
  va_Pc (as.map (am_cv b aS)) (fun U => va_P D vwCl (am_ws cy b aS h) U.heap ∧ va_K D vwCl (am_ty cy) U ∧ (∀ w ∈ am_nst, va_Nw w U) ∧ va_AO RX6 U ∧ (h.1.1 = true → U.heap.size = b + h.1.2.length ∧ X U))
def am_Qc (D : va_G) (cy : Nat → ClassId) (b aS : Nat) (A : Nat → Prop) (r : Option am_V) (h' : am_H) : Array Value → State → Outcome → State → Prop :=
  fun _ st oc t => (oc = .returned (r.map (am_cv b aS)) ∧ va_P D vwCl (am_ws cy b aS h') t.heap) ∧ va_F A st t
theorem am_tw_good : GoodIn am_tw am_tw := fun w h => ⟨h, good_of_word (List.mem_filter.mp h).2⟩
theorem am_wj_good {j : Nat} (hj : j < 281) : GoodIn am_tw (am_wj j) := fun w h => by
  rcases List.mem_cons.mp h with rfl | h
  · exact am_tw_good _ (am_okj hj).1
  · exact am_tw_good _ h
theorem am_nst_warm {s U : State} (hW : s.WarmedH U.vm) (h : ∀ w ∈ am_nst, va_Nw w s) : ∀ w ∈ am_nst, va_Nw w U := by
  intro w hw
  have hz := h w hw
  simp only [am_nst, List.mem_cons, List.not_mem_nil, or_false] at hw
  rcases hw with rfl | rfl | rfl | rfl | rfl | rfl <;> exact va_Nw.warmM hW hz
theorem am_nst_same {u U : State} (hv : u.vm = U.vm) (h : ∀ w ∈ am_nst, va_Nw w u) : ∀ w ∈ am_nst, va_Nw w U := by
  intro w hw
  have hz := h w hw
  simp only [am_nst, List.mem_cons, List.not_mem_nil, or_false] at hw
  rcases hw with rfl | rfl | rfl | rfl | rfl | rfl <;> exact va_Nw.same rfl hv hz
theorem am_AO_same {C : String} {u U : State} (hv : u.vm = U.vm) (h : va_AO C u) : va_AO C U := va_AO.moved (hv ▸ Vm.Alike.refl u.vm) h
theorem am_Pc_blind {X : State → Prop} (hX : ∀ (U : State) (g : JFrame) (mk : MethodId) (a : Array Value), X U → X (U.calling g mk a)) {D : va_G} {cy : Nat → ClassId} {b aS : Nat} {as : List am_V} {h : am_H} : FrameBlind (am_Pc X D cy b aS as h) := by
  intro a U g mk hp
  obtain ⟨e, h1, h2, h3, h4, h5⟩ := hp
  exact ⟨e, h1, va_K.moved (u := U) (U := U.calling g mk a) (Vm.Alike.refl U.vm) h2, am_nst_same (u := U) (U := U.calling g mk a) rfl h3, am_AO_same (u := U) (U := U.calling g mk a) rfl h4, fun z => ⟨(h5 z).1, hX _ _ _ _ (h5 z).2⟩⟩
theorem am_A_sub {b n n0 q : Nat} {tg : Bool} (h : tg = false → n = n0) (hq : am_A b n tg q) : am_A b n0 tg q := by
  obtain ⟨h1, h2⟩ := hq
  refine ⟨h1, ?_⟩
  cases tg
  · rw [← h rfl]; exact h2
  · exact Or.inl rfl
/-- what a call's check gives -/
theorem am_cok_of {i idx kind j n rk ci : Nat} {z0 : Nat} (hi : i < 281) (h : am_cok i idx kind [z0, j, n, rk, ci] = true) : j < 281 ∧ am_kn j = kind ∧ n = am_np j + (if kind = 1 then 0 else 1) ∧ rk = am_rkk (am_r j) ∧ (kind = 0 → am_k j = ci ∧ ci < 12) ∧ (Cond.methodLink (am_y i).cls idx (am_y j) ∈ am_tw ∨ (kind ≠ 0 ∧ Cond.methodLinkNest (am_y i).cls idx (am_y j) RX10 ∈ am_nst)) := by
  unfold am_cok at h
  simp only [Bool.and_eq_true, decide_eq_true_eq, Bool.or_eq_true, Bool.not_eq_true'] at h
  obtain ⟨⟨⟨⟨⟨⟨h0, h1⟩, h2⟩, h3⟩, h4⟩, h5⟩, h6⟩ := h
  have e2 := Nat.eq_of_beq_eq_true h2
  have e3 := Nat.eq_of_beq_eq_true h3
  have e4 := Nat.eq_of_beq_eq_true h4
  refine ⟨h1, e2, ?_, e4, fun hk => ?_, ?_⟩
  · rw [e3]
    by_cases q : kind = 1
    · subst q; rfl
    · rw [if_neg q, show Nat.beq kind 1 = false from by
        cases hb : Nat.beq kind 1
        · rfl
        · exact absurd (Nat.eq_of_beq_eq_true hb) q]
      rfl
  · rcases h5 with q | q
    · subst hk; cases q
    · exact ⟨Nat.eq_of_beq_eq_true q.1, q.2⟩
  · rcases h6 with q | q
    · left
      obtain ⟨z, hz, hz2⟩ := am_any_nat q
      simp only [Bool.and_eq_true] at hz2
      have f1 := Nat.eq_of_beq_eq_true hz2.1
      have f2 := Nat.eq_of_beq_eq_true hz2.2
      have hk := am_mlk_ok h0 hz
      unfold am_mlk at hk
      simp only [Bool.and_eq_true, decide_eq_true_eq] at hk
      rw [f1, f2, am_nm_y hi] at hk
      exact am_hw_in hk.2
    · right
      refine ⟨fun z => ?_, by rw [← am_nm_y hi]; exact q.2⟩
      subst z
      cases q.1
section
variable {p : Program} {l : Launch} {e : Env} {R : Room} {s : State} {m : MethodId} {args : Array Value} {below : List Frame} {meth : Method} {c : Code} {Q : State → Prop}
variable {D : va_G} {cy : Nat → ClassId} {b aS n0 z0 : Nat} {tg : Bool} {i : Nat} {pc : Nat} {L : List (Option am_V)} {S : List am_V} {h : am_H} {X : State → Prop}
theorem am_ret_call {H : Heap} {locs : List Loc} {cells slots mc ms : Nat} {ls : Array Slot} {st0 rest : List Value} {r1 : Option am_V} {h1 : am_H} {a : Array Value} {free A0 A1 : Nat → Prop} (hr : va_Run p l e R s m args below meth c H locs cells slots mc ms (F0 m pc ls st0) rest (am_Qc D cy b aS A1 r1 h1 a) free) (hS : va_S A0 s.heap H locs) (hA : ∀ q, A1 q → A0 q) (hf : ∀ q, free q → A0 q)
    (kk : ∀ (H1 : Heap) (locs1 : List Loc), va_P D vwCl (am_ws cy b aS h1) H1 → va_S A0 s.heap H1 locs1 → W p l e R s m args below meth c H1 locs1 (cells + mc) (slots + ms) Q (F0 m (pc + 3) ls ((r1.map (am_cv b aS)).toList ++ rest))) : W p l e R s m args below meth c H locs cells slots Q (F0 m pc ls st0) := by
  intro T hT X
  obtain ⟨v, st₀, t, T', L, h0, X', hL, e1, e2, ⟨⟨hv, hp⟩, hz, hk⟩, st⟩ := hr T hT X
  cases hv
  rw [h0] at hz hk
  obtain ⟨t2, a1, b1⟩ := kk T'.heap (locs ++ L) (by rw [e1]; exact hp) ⟨Nat.le_trans hS.1 (by rw [e1]; exact hz), fun q h1 h2 => by rw [e1, hk q (Nat.lt_of_lt_of_le h1 hS.1) (fun z => h2 (hA q z))]; exact hS.2.1 q h1 h2, fun q hq => by
      rcases List.mem_append.mp hq with h | h
      · exact hS.2.2 q h
      · exact hf _ (hL q h)⟩ T' rfl X'
  exact ⟨t2, st t2 a1, b1⟩
/-- the size of the heap when cells are being made -/
theorem am_tight (F : am_fx p l e R s m args below meth c D cy b aS n0 tg i) {ls : Array Slot} {H : Heap} {locs : List Loc} {cells slots : Nat} (P : am_pt s D cy b aS n0 z0 tg i L S h ls H locs cells slots) (hz : H.size ≤ s.heap.size + cells) (ht : tg = true) : H.size = b + h.1.2.length := by
  have hsz : s.heap.size = b + n0 := F.2.2.2.2.2.2.2.2.2.2.2.2.2.2.1 ht
  have h1 := P.2.2.2.2.2.1
  have h2 := P.2.2.2.2.1.1
  rcases Nat.eq_zero_or_pos h.1.2.length with q | q
  · omega
  · have hg := am_ws_get (cy := cy) (b := b) (aS := aS) (h := h) (a := h.1.2.length - 1) (by omega)
    have := (P.2.2.2.1 _ _ hg).lt
    have : b + (h.1.2.length - 1) < H.size := this
    omega
/-- how X goes on -/
def am_xt (X : State → Prop) (b : Nat) (s : State) : Prop := ∀ (H : Heap) (locs : List Loc) (U : State), va_S (fun q => b ≤ q) s.heap H locs → U.heap = H → s.WarmedH U.vm → X U
theorem am_pre (F : am_fx p l e R s m args below meth c D cy b aS n0 tg i) (hXt : tg = true → am_xt X b s) {ls : Array Slot} {H : Heap} {locs : List Loc} {cells slots : Nat} (P : am_pt s D cy b aS n0 z0 tg i L S h ls H locs cells slots) (hz : H.size ≤ s.heap.size + cells) {as : List am_V} {vs : List Value} (hv : vs = as.map (am_cv b aS)) : ∀ U : State, U.heap = H → s.WarmedH U.vm → am_Pc X D cy b aS as h vs.toArray U := by
  intro U hU hW
  obtain ⟨hx, hb, hml, hown, hts, hK, hlocks, hrr, hname, hnst, hAO, hi, -⟩ := id F
  refine ⟨by rw [hv], by rw [hU]; exact P.2.2.2.1, va_K.moved hW.alike hK, am_nst_warm hW hnst, ?_, fun z => ?_⟩
  · exact va_AO.moved hW.alike hAO
  · have ht : tg = true := P.2.2.2.2.2.2.2.1 ▸ z
    refine ⟨by rw [hU]; exact am_tight F P hz ht, hXt ht H locs U ?_ hU hW⟩
    obtain ⟨q1, q2, q3⟩ := P.2.2.2.2.1
    exact ⟨q1, fun q g1 g2 => q2 q g1 (fun w => g2 w.1), fun q hq => (q3 q hq).1⟩
/-- the point behind a call -/
theorem am_pt.cl {h1 : am_H} {S' : List am_V} {ls : Array Slot} {H H1 : Heap} {locs locs1 : List Loc} {cells slots mc ms : Nat} (P : am_pt s D cy b aS n0 z0 tg i L S h ls H locs cells slots) (hc : h.1.2.length + mc = h1.1.2.length ∧ am_sz h.1.2 + ms = am_sz h1.1.2) (hg : h1.1.1 = tg ∧ (tg = false → h1.1.2.length = h.1.2.length)) (hS : ∀ v ∈ S', am_okv v) (hh : am_okh h1) (hP : va_P D vwCl (am_ws cy b aS h1) H1) (hSS : va_S (am_A b n0 tg) s.heap H1 locs1) : am_pt s D cy b aS n0 z0 tg i L S' h1 ls H1 locs1 (cells + mc) (slots + ms) := by
  obtain ⟨g1, g2, g3, g4, g5, g6, g7, g8, g9⟩ := P
  exact ⟨g1, hS, hh, hP, hSS, by omega, by omega, hg.1, fun z => (hg.2 z).trans (g9 z)⟩
theorem am_ok_app {r : Option am_V} {S' : List am_V} (hr : ∀ v, r = some v → am_okv v) (hS : ∀ v ∈ S', am_okv v) : ∀ v ∈ r.toList ++ S', am_okv v := by
  intro v hv
  cases r with
  | none => exact hS v hv
  | some w => exact am_ok1 (hr w rfl) hS v hv
theorem am_toList_map {r : Option am_V} {S' : List am_V} : (r.map (am_cv b aS)).toList ++ S'.map (am_cv b aS) = (r.toList ++ S').map (am_cv b aS) := by cases r <;> simp
/-- what is asked of a callee -/
def am_Ce (l : Launch) (X : State → Prop) (D : va_G) (cy : Nat → ClassId) (b aS : Nat) (tg : Bool) (R : Room) (n0 z0 d j : Nat) (as : List am_V) (h : am_H) (r1 : Option am_V) (h1 : am_H) : Prop := ∃ mc ms : Nat,
  Met l (am_y j) (am_wj j) (am_rm d mc ms) (am_Pc X D cy b aS as h) (am_Qc D cy b aS (am_A b h.1.2.length tg) r1 h1) mc ms (am_A b h.1.2.length tg) ∧ d + 2 ≤ R.frames ∧ 64 * (d + 2) ≤ R.locals ∧ (h.1.2.length + mc = h1.1.2.length ∧ am_sz h.1.2 + ms = am_sz h1.1.2) ∧ am_hr R n0 z0 h1 ∧ (h1.1.1 = tg ∧ (tg = false → h1.1.2.length = h.1.2.length)) ∧ am_okh h1 ∧ (∀ v, r1 = some v → am_okv v)
theorem sn_callV (F : am_fx p l e R s m args below meth c D cy b aS n0 tg i) (hXb : ∀ (U : State) (g : JFrame) (mk : MethodId) (a : Array Value), X U → X (U.calling g mk a)) (hXt : tg = true → am_xt X b s) {idx j n rk ci a d : Nat} {as S' : List am_V} {r1 : Option am_V} {h1 : am_H} (hd : decode (am_c i) pc = .ok (.invokevirtual idx, 3)) (ho : am_cok i idx 0 [0, j, n, rk, ci] = true) (hn : as.length + 1 = n) (hS : am_cw S' ≤ 8) (hk : am_kd h a = ci)
    (hC : am_Ce l X D cy b aS tg R n0 z0 d j (.inr (.inr (.inl (some a))) :: as) h r1 h1) (kk : am_Gd p l e R s m args below meth c Q D cy b aS n0 z0 tg i (pc + 3) L (r1.toList ++ S') h1) : am_Gd p l e R s m args below meth c Q D cy b aS n0 z0 tg i pc L (as.reverse ++ .inr (.inr (.inl (some a))) :: S') h := by
  intro ls H locs cells slots P
  refine am_sized fun hz => ?_
  obtain ⟨hx, hb, hml, hown, hts, hK, hlocks, hrr, hname, hnst, hAO, hi, hf1, hf2, -⟩ := id F
  obtain ⟨mc, ms, hM, hR1, hR2, hc, hhr, hg, hh1, hok⟩ := hC
  obtain ⟨hj, e1, e2, e3, e4, e5⟩ := am_cok_of hi ho
  obtain ⟨e4, e4'⟩ := e4 rfl
  have hlink : Cond.methodLink (am_y i).cls idx (am_y j) ∈ am_tw := by rcases e5 with q | q; exact q; exact absurd rfl q.1
  obtain ⟨w1, w2, w3, w4, w5, w6, w7, w8, w9, w10⟩ := am_okj hj
  have hcls : ∃ T N, vwCl[ci]? = some ((am_y j).cls, T, N) := by
    have key : ∀ ci, ci < 12 → (vwCl[ci]?).map (fun q => q.1) = some (am_nm ci) := by decide +kernel
    have := key ci e4'
    rw [← e4, w10] at this
    rw [e4] at this
    cases hv : vwCl[ci]? with
    | none => rw [hv] at this; cases this
    | some q => obtain ⟨C, T, N⟩ := q; rw [hv] at this; simp at this; exact ⟨T, N, by rw [this]⟩
  obtain ⟨T, N, hv⟩ := hcls
  have hlt : a < h.1.2.length := am_kd_lt hk (by omega)
  have hst : (as.reverse ++ (Sum.inr (Sum.inr (Sum.inl (some a))) : am_V) :: S').map (am_cv b aS) = (as.map (am_cv b aS)).reverse ++ .ref (b + a) :: S'.map (am_cv b aS) := by simp [am_cv, va_rf]
  rw [hst]
  have hoS : ∀ v ∈ S', am_okv v := fun v hv => P.2.1 v (by simp [hv])
  refine am_ret_call (va_runV (C := (am_y j).cls) (As := as.map (am_cv b aS)) (b := b + a) (n := am_np j) ⟨hx, hb, hml, hown, hts⟩ hM ⟨callB_of (am_np j) hts (am_wj_good hj) rfl rfl rfl (hts _ w2) (hts _ hlink) w6 ⟨hR1, by show 8 + (am_mx j + 11) + 64 * (d + 1) ≤ R.locals; omega⟩, hts _ (w4 (by rw [e1]; decide)), hts _ (w5 e1)⟩ ⟨am_Pc_blind hXb, va_recv hK P.2.2.2.1 hv ((am_ws_get hlt).trans (by rw [am_ce_obj hk e4'])), am_pre F hXt P hz rfl⟩ rfl (by simp; simp at e2; omega) P.1.1 rfl (lv_room (by rw [am_cat_sum]; exact hS)) hd ⟨by have := hhr.1; have := P.2.2.2.2.2.1; omega, by have := hhr.2; have := P.2.2.2.2.2.2.1; omega⟩) P.2.2.2.2.1 (fun q => am_A_sub P.2.2.2.2.2.2.2.2) (fun q => am_A_sub P.2.2.2.2.2.2.2.2) fun H1 locs1 p1 p2 => ?_
  rw [am_toList_map]
  exact kk _ _ _ _ _ (P.cl hc hg (am_ok_app hok hoS) hh1 p1 p2)
theorem sn_callS (F : am_fx p l e R s m args below meth c D cy b aS n0 tg i) (hXb : ∀ (U : State) (g : JFrame) (mk : MethodId) (a : Array Value), X U → X (U.calling g mk a)) (hXt : tg = true → am_xt X b s) {idx j n rk ci d : Nat} {as S' : List am_V} {r1 : Option am_V} {h1 : am_H} (hd : decode (am_c i) pc = .ok (.invokestatic idx, 3)) (ho : am_cok i idx 1 [0, j, n, rk, ci] = true) (hn : as.length = n) (hS : am_cw S' ≤ 8)
    (hC : am_Ce l X D cy b aS tg R n0 z0 d j as h r1 h1) (kk : am_Gd p l e R s m args below meth c Q D cy b aS n0 z0 tg i (pc + 3) L (r1.toList ++ S') h1) : am_Gd p l e R s m args below meth c Q D cy b aS n0 z0 tg i pc L (as.reverse ++ S') h := by
  intro ls H locs cells slots P
  refine am_sized fun hz => ?_
  obtain ⟨hx, hb, hml, hown, hts, hK, hlocks, hrr, hname, hnst, hAO, hi, hf1, hf2, -⟩ := id F
  obtain ⟨mc, ms, hM, hR1, hR2, hc, hhr, hg, hh1, hok⟩ := hC
  obtain ⟨hj, e1, e2, e3, e4, e5⟩ := am_cok_of hi ho
  obtain ⟨w1, w2, w3, w4, w5, w6, w7, w8, w9, w10⟩ := am_okj hj
  have hst : (as.reverse ++ S').map (am_cv b aS) = (as.map (am_cv b aS)).reverse ++ S'.map (am_cv b aS) := by simp
  rw [hst]
  have hoS : ∀ v ∈ S', am_okv v := fun v hv => P.2.1 v (by simp [hv])
  have fin : ∀ (H1 : Heap) (locs1 : List Loc), va_P D vwCl (am_ws cy b aS h1) H1 → va_S (am_A b n0 tg) s.heap H1 locs1 → W p l e R s m args below meth c H1 locs1 (cells + mc) (slots + ms) Q (F0 m (pc + 3) ls ((r1.map (am_cv b aS)).toList ++ S'.map (am_cv b aS))) := fun H1 locs1 p1 p2 => by
    rw [am_toList_map]
    exact kk _ _ _ _ _ (P.cl hc hg (am_ok_app hok hoS) hh1 p1 p2)
  have hlen : (as.map (am_cv b aS)).length = am_np j := by simp; simp at e2; omega
  have hcap : cells + mc ≤ R.cells ∧ slots + ms ≤ R.slots := ⟨by have := hhr.1; have := P.2.2.2.2.2.1; omega, by have := hhr.2; have := P.2.2.2.2.2.2.1; omega⟩
  have hroom : (am_rm d mc ms).frames + 1 ≤ R.frames ∧ 8 + (am_mx j + 11) + (am_rm d mc ms).locals ≤ R.locals := ⟨hR1, by show 8 + (am_mx j + 11) + 64 * (d + 1) ≤ R.locals; omega⟩
  rcases e5 with hlink | ⟨-, hlink⟩
  · exact am_ret_call (va_runS (As := as.map (am_cv b aS)) (n := am_np j) ⟨hx, hb, hml, hown, hts⟩ hM ⟨callB_of (am_np j) hts (am_wj_good hj) rfl rfl rfl (hts _ w2) (hts _ hlink) w6 hroom, hts _ (w3 e1)⟩ ⟨am_Pc_blind hXb, am_pre F hXt P hz rfl⟩ rfl hlen P.1.1 rfl (lv_room (by rw [am_cat_sum]; exact hS)) hd hcap) P.2.2.2.2.1 (fun q => am_A_sub P.2.2.2.2.2.2.2.2) (fun q => am_A_sub P.2.2.2.2.2.2.2.2) fin
  · exact am_ret_call (va_runSN (As := as.map (am_cv b aS)) (n := am_np j) ⟨hx, hb, hml, hown, hts⟩ hM ⟨va_cnB (am_np j) hts (am_wj_good hj) rfl rfl rfl (hnst _ hlink) (hts _ w2) w6 hroom, hts _ (w3 e1), trivial⟩ ⟨am_Pc_blind hXb, am_pre F hXt P hz rfl⟩ rfl hlen P.1.1 rfl (lv_room (by rw [am_cat_sum]; exact hS)) hd hcap) P.2.2.2.2.1 (fun q => am_A_sub P.2.2.2.2.2.2.2.2) (fun q => am_A_sub P.2.2.2.2.2.2.2.2) fin
theorem sn_callI (F : am_fx p l e R s m args below meth c D cy b aS n0 tg i) (hXb : ∀ (U : State) (g : JFrame) (mk : MethodId) (a : Array Value), X U → X (U.calling g mk a)) (hXt : tg = true → am_xt X b s) {idx j n rk ci a d : Nat} {as S' : List am_V} {r1 : Option am_V} {h1 : am_H} (hd : decode (am_c i) pc = .ok (.invokespecial idx, 3)) (ho : am_cok i idx 2 [0, j, n, rk, ci] = true) (hn : as.length + 1 = n) (hS : am_cw S' ≤ 8)
    (hC : am_Ce l X D cy b aS tg R n0 z0 d j (.inr (.inr (.inl (some a))) :: as) h r1 h1) (kk : am_Gd p l e R s m args below meth c Q D cy b aS n0 z0 tg i (pc + 3) L (r1.toList ++ S') h1) : am_Gd p l e R s m args below meth c Q D cy b aS n0 z0 tg i pc L (as.reverse ++ .inr (.inr (.inl (some a))) :: S') h := by
  intro ls H locs cells slots P
  refine am_sized fun hz => ?_
  obtain ⟨hx, hb, hml, hown, hts, hK, hlocks, hrr, hname, hnst, hAO, hi, hf1, hf2, -⟩ := id F
  obtain ⟨mc, ms, hM, hR1, hR2, hc, hhr, hg, hh1, hok⟩ := hC
  obtain ⟨hj, e1, e2, e3, e4, e5⟩ := am_cok_of hi ho
  obtain ⟨w1, w2, w3, w4, w5, w6, w7, w8, w9, w10⟩ := am_okj hj
  obtain ⟨w8, w8'⟩ := w8 e1
  have hst : (as.reverse ++ (Sum.inr (Sum.inr (Sum.inl (some a))) : am_V) :: S').map (am_cv b aS) = (as.map (am_cv b aS)).reverse ++ .ref (b + a) :: S'.map (am_cv b aS) := by simp [am_cv, va_rf]
  rw [hst]
  have hoS : ∀ v ∈ S', am_okv v := fun v hv => P.2.1 v (by simp [hv])
  have fin : ∀ (H1 : Heap) (locs1 : List Loc), va_P D vwCl (am_ws cy b aS h1) H1 → va_S (am_A b n0 tg) s.heap H1 locs1 → W p l e R s m args below meth c H1 locs1 (cells + mc) (slots + ms) Q (F0 m (pc + 3) ls ((r1.map (am_cv b aS)).toList ++ S'.map (am_cv b aS))) := fun H1 locs1 p1 p2 => by
    rw [am_toList_map]
    exact kk _ _ _ _ _ (P.cl hc hg (am_ok_app hok hoS) hh1 p1 p2)
  have hlen : (as.map (am_cv b aS)).length = am_np j := by simp; simp at e2; omega
  have hcap : cells + mc ≤ R.cells ∧ slots + ms ≤ R.slots := ⟨by have := hhr.1; have := P.2.2.2.2.2.1; omega, by have := hhr.2; have := P.2.2.2.2.2.2.1; omega⟩
  have hroom : (am_rm d mc ms).frames + 1 ≤ R.frames ∧ 8 + (am_mx j + 11) + (am_rm d mc ms).locals ≤ R.locals := ⟨hR1, by show 8 + (am_mx j + 11) + 64 * (d + 1) ≤ R.locals; omega⟩
  have hwj : am_wj j = Cond.code (am_y j) (am_c j) (am_mx j) none :: am_tw := by unfold am_wj; rw [w8']
  rcases e5 with hlink | ⟨-, hlink⟩
  · exact am_ret_call (va_runI (b := b + a) (As := as.map (am_cv b aS)) (n := am_np j) ⟨hx, hb, hml, hown, hts⟩ hM ⟨callB_of (am_np j) hts (am_wj_good hj) hwj rfl rfl (hts _ w2) (hts _ hlink) w6 hroom, w8, hts _ (w4 (by rw [e1]; decide))⟩ ⟨am_Pc_blind hXb, am_pre F hXt P hz rfl⟩ rfl hlen P.1.1 rfl (lv_room (by rw [am_cat_sum]; exact hS)) hd hcap) P.2.2.2.2.1 (fun q => am_A_sub P.2.2.2.2.2.2.2.2) (fun q => am_A_sub P.2.2.2.2.2.2.2.2) fin
  · exact am_ret_call (va_runIN (b := b + a) (As := as.map (am_cv b aS)) (n := am_np j) ⟨hx, hb, hml, hown, hts⟩ hM ⟨va_cnB (am_np j) hts (am_wj_good hj) hwj rfl rfl (hnst _ hlink) (hts _ w2) w6 hroom, w8, hts _ (w4 (by rw [e1]; decide))⟩ ⟨am_Pc_blind hXb, am_pre F hXt P hz rfl⟩ rfl hlen P.1.1 rfl (lv_room (by rw [am_cat_sum]; exact hS)) hd hcap) P.2.2.2.2.1 (fun q => am_A_sub P.2.2.2.2.2.2.2.2) (fun q => am_A_sub P.2.2.2.2.2.2.2.2) fin
/-- returns -/
theorem am_end {mc ms : Nat} {r : Option am_V} {ls : Array Slot} {H : Heap} {locs : List Loc} {cells slots : Nat} (P : am_pt s D cy b aS n0 z0 tg i L S h ls H locs cells slots) : ∀ t : State, t.heap = H → s.WarmedH t.vm → am_Qc D cy b aS (am_A b n0 tg) r h args s (.returned (r.map (am_cv b aS))) t := by
  intro t ht _
  refine ⟨⟨rfl, by rw [ht]; exact P.2.2.2.1⟩, ?_, fun q g1 g2 => ?_⟩
  · rw [ht]; exact P.2.2.2.2.1.1
  · rw [ht]; exact P.2.2.2.2.1.2.1 q g1 g2
theorem sn_iret (F : am_fx p l e R s m args below meth c D cy b aS n0 tg i) {x : Int} {mc ms : Nat} (hd : decode (am_c i) pc = .ok (.ireturn, 1)) (ho : (am_r i = some .int) ∨ (am_r i = some .boolean ∧ (x = 0 ∨ x = 1))) (hm : mc + n0 = h.1.2.length ∧ ms + z0 = am_sz h.1.2) (hQ : Q = MQ below (am_Qc D cy b aS (am_A b n0 tg) (some (.inl x)) h) args s mc ms (am_A b n0 tg)) : am_Gd p l e R s m args below meth c Q D cy b aS n0 z0 tg i pc L [.inl x] h := by
  intro ls H locs cells slots P
  subst hQ
  obtain ⟨hx, hb, hml, hown, hts, hK, hlocks, hrr, -⟩ := id F
  have c1 : cells = mc := by have := P.2.2.2.2.2.1; omega
  have c2 : slots = ms := by have := P.2.2.2.2.2.2.1; omega
  subst c1; subst c2
  rcases ho with q | ⟨q, hv⟩
  · exact W.iret hx hb (hrr.trans q) (am_end (mc := 0) (ms := 0) (r := some (.inl x)) P) P.2.2.2.2.1.2.2 hd hlocks
  · refine W.zret hx hb (hrr.trans q) ?_ (am_end (mc := 0) (ms := 0) (r := some (.inl x)) P) P.2.2.2.2.1.2.2 hd hlocks
    rcases hv with rfl | rfl <;> decide
theorem sn_lret (F : am_fx p l e R s m args below meth c D cy b aS n0 tg i) {x : Int} {mc ms : Nat} (hd : decode (am_c i) pc = .ok (.lreturn, 1)) (ho : am_r i = some .long) (hm : mc + n0 = h.1.2.length ∧ ms + z0 = am_sz h.1.2) (hQ : Q = MQ below (am_Qc D cy b aS (am_A b n0 tg) (some (.inr (.inl x))) h) args s mc ms (am_A b n0 tg)) : am_Gd p l e R s m args below meth c Q D cy b aS n0 z0 tg i pc L [.inr (.inl x)] h := by
  intro ls H locs cells slots P
  subst hQ
  obtain ⟨hx, hb, hml, hown, hts, hK, hlocks, hrr, -⟩ := id F
  have c1 : cells = mc := by have := P.2.2.2.2.2.1; omega
  have c2 : slots = ms := by have := P.2.2.2.2.2.2.1; omega
  subst c1; subst c2
  exact W.lret hx hb (hrr.trans ho) (am_end (mc := 0) (ms := 0) (r := some (.inr (.inl x))) P) P.2.2.2.2.1.2.2 hd hlocks
theorem sn_vret (F : am_fx p l e R s m args below meth c D cy b aS n0 tg i) {mc ms : Nat} (hd : decode (am_c i) pc = .ok (.return_, 1)) (ho : am_r i = none) (hm : mc + n0 = h.1.2.length ∧ ms + z0 = am_sz h.1.2) (hQ : Q = MQ below (am_Qc D cy b aS (am_A b n0 tg) none h) args s mc ms (am_A b n0 tg)) : am_Gd p l e R s m args below meth c Q D cy b aS n0 z0 tg i pc L [] h := by
  intro ls H locs cells slots P
  subst hQ
  obtain ⟨hx, hb, hml, hown, hts, hK, hlocks, hrr, -⟩ := id F
  have c1 : cells = mc := by have := P.2.2.2.2.2.1; omega
  have c2 : slots = ms := by have := P.2.2.2.2.2.2.1; omega
  subst c1; subst c2
  exact W.vret hx hb (hrr.trans ho) (am_end (mc := 0) (ms := 0) (r := none) P) P.2.2.2.2.1.2.2 hd hlocks
end
