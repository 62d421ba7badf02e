/-! cb: soundness with room for the words -/
def am_snd5 (l : Launch) (X : State → Prop) (D : va_G) (cy : Nat → ClassId) (b aS : Nat) (d : Nat) : Prop := ∀ (n j : Nat) (as : List am_V) (h : am_H) (r : Option am_V) (h' : am_H), j < 281 → am_run n d j 0 (am_en j as) [] h = some (r, h') → (∀ v ∈ as, am_okv v) → am_okh h → am_cw as ≤ am_mx j →
  ∃ mc ms : Nat, Met l (am_y j) (am_wj j) (am_rm (d + 5) mc ms) (am_Pc X D cy b aS as h) (am_Qc D cy b aS (am_A b h.1.2.length h.1.1) r h') mc ms (am_A b h.1.2.length h.1.1) ∧ (h.1.2.length + mc = h'.1.2.length ∧ am_sz h.1.2 + ms = am_sz h'.1.2)
def am_XX5 (l : Launch) (X : State → Prop) (b aS : Nat) : Prop := (∀ (U : State) (g : JFrame) (mk : MethodId) (a : Array Value), X U → X (U.calling g mk a)) ∧ (∀ s : State, X s → am_xt X b s) ∧
  ∀ (p : Program) (e : Env) (R : Room) (s : State) (m : MethodId) (args : Array Value) (below : List Frame) (meth : Method) (c : Code) (i : Nat), i < 281 → p.tables.exec = Jvm.exec → c.code = am_c i → c.maxLocals = am_mx i → s.vm.findClass (am_y i).cls = some m.cls → (∀ w ∈ am_tw, w.before args s = true) → 6 ≤ R.frames → 384 ≤ R.locals → X s → am_sx p l e R s m args below meth c b aS i
set_option maxHeartbeats 4000000 in
theorem am_sound5 {l : Launch} {X : State → Prop} {D : va_G} {cy : Nat → ClassId} {b aS : Nat} (hX : am_XX5 l X b aS) : ∀ d, am_snd5 l X D cy b aS d := by
  intro d
  induction d using Nat.strongRecOn with
  | ind d IH =>
    intro n j as h r h' hj hr has hh hcw
    obtain ⟨g0, hh', hok⟩ := am_run_inv n d j 0 (am_en j as) [] h r h' hj hr (am_okL_en has) (fun v hv => by cases hv) hh
    refine ⟨h'.1.2.length - h.1.2.length, am_sz h'.1.2 - am_sz h.1.2, ?_, by have := g0.2.1; omega, by have := g0.2.2.1; omega⟩
    refine Met.ofW (am_okj hj).2.2.2.2.2.2.1 rfl ?_
    intro p e s m args below meth c s₁ B hml hv
    obtain ⟨hargs, hP, hK, hnst, hAO, htg⟩ := hv
    have hts := atoms_spec (ws := am_wj j) B.pre
    have hts2 : ∀ w ∈ am_tw, w.before args s = true := fun w hw => hts w (List.mem_cons_of_mem _ hw)
    have hown : s.vm.findClass (am_y j).cls = some m.cls := findClass_of_methodNamed B.named
    have F : am_fx p l e (am_rm (d + 5) (h'.1.2.length - h.1.2.length) (am_sz h'.1.2 - am_sz h.1.2)) s m args below meth c D cy b aS h.1.2.length h.1.1 j :=
      ⟨B.exec, B.bytes, hml, hown, hts2, hK, B.notSynchronized, B.returns, (name_of_methodNamed B.named B.method).1, hnst, hAO, hj, by show 1 ≤ d + 5 + 1; omega, by show 64 ≤ 64 * (d + 5 + 1); omega, fun z => (htg z).1, fun z => hX.2.2 p e _ s m args below meth c j hj B.exec B.bytes hml hown hts2 (by show 6 ≤ d + 5 + 1; omega) (by show 384 ≤ 64 * (d + 5 + 1); omega) (htg z).2⟩
    have hXt : h.1.1 = true → am_xt X b s := fun z => hX.2.1 s (htg z).2
    have key : ∀ (k pc : Nat) (L : List (Option am_V)) (S : List am_V) (h1 : am_H), am_run k d j pc L S h1 = some (r, h') → am_okL L → (∀ v ∈ S, am_okv v) → am_okh h1 → h1.1.1 = h.1.1 → am_Gd p l e (am_rm (d + 5) (h'.1.2.length - h.1.2.length) (am_sz h'.1.2 - am_sz h.1.2)) s m args below meth c (MQ below (am_Qc D cy b aS (am_A b h.1.2.length h.1.1) r h') args s (h'.1.2.length - h.1.2.length) (am_sz h'.1.2 - am_sz h.1.2) (am_A b h.1.2.length h.1.1)) D cy b aS h.1.2.length (am_sz h.1.2) h.1.1 j pc L S h1 := by
      intro k
      induction k with
      | zero => intro pc L S h1 q; simp [am_run] at q
      | succ k ih =>
        intro pc L S h1 q o1 o2 o3 o4
        obtain ⟨e', len, dn, di, ht, st⟩ := am_run_st q
        refine am_step (mc := h'.1.2.length - h.1.2.length) (ms := am_sz h'.1.2 - am_sz h.1.2) F hX.1 hXt e' len dn di (am_oki hj ht) st o1 o2 o3 ?_ ?_ ?_
        · intro pc' L' S' h2 q2 gg a1 a2 a3
          obtain ⟨c1, c2, c3⟩ := am_run_inv k d j pc' L' S' h2 r h' hj q2 a1 a2 a3
          refine ⟨⟨?_, ?_⟩, ih pc' L' S' h2 q2 a1 a2 a3 (gg.1.trans o4)⟩
          · show h2.1.2.length ≤ h'.1.2.length - h.1.2.length + h.1.2.length
            have := c1.2.1; have := g0.2.1; omega
          · show am_sz h2.1.2 ≤ am_sz h'.1.2 - am_sz h.1.2 + am_sz h.1.2
            have := c1.2.2.1; have := g0.2.2.1; omega
        · intro r0 q2
          cases q2
          exact ⟨⟨by have := g0.2.1; omega, by have := g0.2.2.1; omega⟩, rfl⟩
        · intro j2 as2 rk pc' S' a1 a2 a3 hj2 q2
          obtain ⟨d', rfl, r1, h2, q3, q4⟩ := q2
          obtain ⟨b1, b2, b3⟩ := am_run_inv k d' j2 0 (am_en j2 as2) [] h1 r1 h2 hj2 q3 (am_okL_en a1) (fun v hv => by cases hv) o3
          obtain ⟨c1, c2, c3⟩ := am_run_inv k (d' + 1) j pc' L (r1.toList ++ S') h2 r h' hj (am_rk_f q4) o1 (am_ok_app b3 a2) b2
          obtain ⟨mc, ms, hM, hm⟩ := IH d' (by omega) k j2 as2 h1 r1 h2 hj2 q3 a1 o3 a3
          refine ⟨d' + 5, r1, h2, ⟨mc, ms, by rw [← o4]; exact hM, by show d' + 5 + 2 ≤ d' + 1 + 5 + 1; omega, by show 64 * (d' + 5 + 2) ≤ 64 * (d' + 1 + 5 + 1); omega, hm, ⟨?_, ?_⟩, ⟨b1.1.trans o4, fun z => by rw [b1.2.2.2 (o4.trans z)]⟩, b2, b3⟩, ih pc' L (r1.toList ++ S') h2 (am_rk_f q4) o1 (am_ok_app b3 a2) b2 (b1.1.trans o4)⟩
          · show h2.1.2.length ≤ h'.1.2.length - h.1.2.length + h.1.2.length
            have := c1.2.1; have := g0.2.1; omega
          · show am_sz h2.1.2 ≤ am_sz h'.1.2 - am_sz h.1.2 + am_sz h.1.2
            have := c1.2.2.1; have := g0.2.2.1; omega
    have hl := lv_entry (as.map (am_cv b aS)) (n := am_mx j) (by rw [am_sl_len]; exact hcw)
    rw [hargs, lg_entry_eq]
    generalize (lg_sl (as.map (am_cv b aS)) ++ List.replicate (am_mx j - (lg_sl (as.map (am_cv b aS))).length) Slot.unset).toArray = ls at hl ⊢
    rw [← hargs]
    refine key n 0 (am_en j as) [] h hr (am_okL_en has) (fun v hv => by cases hv) hh rfl ls s.heap [] 0 0 ⟨am_lr_en has hl, (fun v hv => by cases hv), hh, hP, va_S.rf, by omega, by omega, rfl, fun _ => rfl⟩
def st_P (b aS : Nat) (U : State) : Prop := vk_R RX8 28 st_tx aS U ∧ ∃ aV, st_V b aS aV U
theorem st_XX {l : Launch} {b aS : Nat} : am_XX5 l (st_P b aS) b aS := by
  refine ⟨fun U g mk a h => ⟨vk_R.same (u := U) rfl h.1, h.2.choose, h.2.choose_spec.cg g mk a⟩, fun s h H locs U hS hU hW => ⟨vk_R.warm hW h.1, h.2.choose, h.2.choose_spec.to hU hW hS⟩, ?_⟩
  intro p e R s m args below meth c i hi hx hb hml hown hts hR1 hR2 hX
  obtain ⟨hZ, aV, hV⟩ := hX
  refine ⟨fun hk Q H locs cells slots pc ls rest hS hd kk => ?_, fun hi5 Q H locs cells slots pc ls rest hS hsz hst hc1 hc2 => ?_⟩
  · have e8 : (am_y i).cls = RX8 := by
      have := (am_okj hi).2.2.2.2.2.2.2.2.2
      rw [hk] at this
      exact this.symm
    rw [e8] at hown
    exact va_ldcS hx hb hown hZ hd kk
  · subst hi5
    have hown : s.vm.findClass RX8 = some m.cls := hown
    have hrecv : ∃ cell : Cell, H[aS]? = some cell ∧ cell.vm.isStatics = false ∧ s.vm.findClass RJ0 = some cell.cls := vk_recv (i := 0) hV.1 (by decide) hS
    refine ⟨fun hd kk => ?_, fun k hk hd kk => ?_⟩
    · exact st_call (va_runV (n := 0) (own := RX8) (C := RJ0) (index := 30) (b := aS) (As := []) (rest := rest) ⟨hx, hb, hml, hown, hts⟩ (st_ln (b := b) (aS := aS) (aV := aV)) ⟨callB_of 0 hts (st_good (am_hw_in (z := (1, 209)) (by decide +kernel))) rfl rfl rfl (hts _ (am_hw_in (z := (1, 6)) (by decide +kernel))) (hts _ (am_hw_in (z := (1, 206)) (by decide +kernel))) (by decide) ⟨by show 2 + 1 ≤ R.frames; omega, by show 8 + (1 + 11) + 128 ≤ R.locals; omega⟩, hts _ (am_hw_in (z := (1, 207)) (by decide +kernel)), hts _ (am_hw_in (z := (1, 208)) (by decide +kernel))⟩ ⟨st_blind, hrecv, fun U hU hW => ⟨rfl, hV.to hU hW hS⟩⟩ rfl rfl hsz rfl (lv_room hst) hd ⟨hc1, hc2⟩) kk
    · have h100 : am_str.length = 100 := by decide +kernel
      exact st_call (va_runV (n := 1) (own := RX8) (C := RJ0) (index := 36) (b := aS) (As := [.int (Int32.ofInt (k : Int))]) (rest := rest) ⟨hx, hb, hml, hown, hts⟩ (st_ca (b := b) (aS := aS) (aV := aV) (by omega)) ⟨callB_of 1 hts (st_good (am_hw_in (z := (1, 219)) (by decide +kernel))) rfl rfl rfl (hts _ (am_hw_in (z := (1, 6)) (by decide +kernel))) (hts _ (am_hw_in (z := (1, 216)) (by decide +kernel))) (by decide) ⟨by show 4 + 1 ≤ R.frames; omega, by show 8 + (2 + 11) + 256 ≤ R.locals; omega⟩, hts _ (am_hw_in (z := (1, 217)) (by decide +kernel)), hts _ (am_hw_in (z := (1, 218)) (by decide +kernel))⟩ ⟨st_blind, hrecv, fun U hU hW => ⟨rfl, hV.to hU hW hS⟩⟩ rfl rfl hsz rfl (lv_room hst) hd ⟨hc1, hc2⟩) kk
