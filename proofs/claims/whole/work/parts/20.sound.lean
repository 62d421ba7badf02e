/-! a run of the abstract machine is a run of the machine -/
theorem am_run_st {n d i pc : Nat} {L : List (Option am_V)} {S : List am_V} {h : am_H} {x : Option am_V × am_H} (hr : am_run (n + 1) d i pc L S h = some x) : ∃ e len dn di, am_tb i pc = some (e, len, dn, di) ∧
    am_st False am_gd am_br e len dn di pc L S h (fun pc' L' S' h' => am_run n d i pc' L' S' h' = some x) (fun r h' => (r, h') = x) (fun j as k => ∃ d', d = d' + 1 ∧ ∃ r1 h1, am_run n d' j 0 (am_en j as) [] h = some (r1, h1) ∧ k r1 h1) := by
  rw [am_run] at hr
  cases ht : am_tb i pc with
  | none => rw [ht] at hr; simp at hr
  | some q =>
    obtain ⟨e, len, dn, di⟩ := q
    rw [ht] at hr
    refine ⟨e, len, dn, di, rfl, ?_⟩
    revert hr
    refine am_st_rel (fun (o1 : Option (Option am_V × am_H)) (P : Prop) => o1 = some x → P) (fun q => by simp at q) ?_ ?_ e len dn di pc L S h ?_ ?_ ?_
    · intro c dc u v q w
      split at w
      · rename_i hc; exact ⟨hc, q w⟩
      · simp at w
    · intro c dc u v u' v' q q' w
      split at w
      · rename_i hc; exact ⟨fun _ => q w, fun k => absurd hc k⟩
      · rename_i hc; exact ⟨fun k => absurd k hc, fun _ => q' w⟩
    · intro pc L S h w; exact w
    · intro r1 h1 w; exact Option.some.inj w
    · intro j as k1 k2 q w
      cases d with
      | zero => simp at w
      | succ d =>
        dsimp only at w ⊢
        cases hr : am_run n d j 0 (am_en j as) [] h with
        | none => rw [hr] at w; simp at w
        | some z =>
          rw [hr] at w
          exact ⟨d, rfl, z.1, z.2, hr, q _ _ w⟩
theorem am_lg_pad : ∀ (X : List (Option am_V)) (n k : Nat) (v : am_V), am_lg (am_pad X n) k = some v → am_lg X k = some v
  | [], n, k, v, h => by
    exfalso
    have : ∀ n k, am_lg (List.replicate n none) k = none := by
      intro n
      induction n with
      | zero => intro k; rfl
      | succ n ih => intro k; cases k; rfl; exact ih _
    rw [am_pad, this] at h; cases h
  | x :: t, 0, k, v, h => by simp [am_pad, am_lg] at h
  | x :: t, n + 1, 0, v, h => h
  | x :: t, n + 1, k + 1, v, h => am_lg_pad t n k v h
theorem am_lg_sl : ∀ (as : List am_V) (k : Nat) (v : am_V), am_lg (am_sl as) k = some v → v ∈ as
  | [], k, v, h => by simp [am_sl, am_lg] at h
  | a :: t, 0, v, h => by simp [am_sl, am_lg] at h; rw [h]; exact List.mem_cons_self
  | a :: t, k + 1, v, h => by
    simp only [am_sl, am_lg] at h
    cases hc : am_c1 a with
    | true => rw [hc] at h; exact List.mem_cons_of_mem _ (am_lg_sl t k v h)
    | false =>
      rw [hc] at h
      cases k with
      | zero => simp [am_lg] at h
      | succ k => exact List.mem_cons_of_mem _ (am_lg_sl t k v h)
theorem am_okL_en {j : Nat} {as : List am_V} (h : ∀ v ∈ as, am_okv v) : am_okL (am_en j as) := fun k v hv => h v (am_lg_sl _ _ _ (am_lg_pad _ _ _ _ hv))
theorem am_run_inv : ∀ (n d i pc : Nat) (L : List (Option am_V)) (S : List am_V) (h : am_H) (r : Option am_V) (h' : am_H), i < 281 → am_run n d i pc L S h = some (r, h') → am_okL L → (∀ v ∈ S, am_okv v) → am_okh h → am_gr h h' ∧ am_okh h' ∧ ∀ v, r = some v → am_okv v
  | 0, d, i, pc, L, S, h, r, h', _, hr, _, _, _ => by simp [am_run] at hr
  | n + 1, d, i, pc, L, S, h, r, h', hi, hr, hL, hS, hh => by
    obtain ⟨e, len, dn, di, ht, st⟩ := am_run_st hr
    refine am_inv hi e len dn di (am_oki hi ht) st hL hS hh ?_ ?_ ?_
    · intro pc' L' S' h1 q g o1 o2 o3
      obtain ⟨a, b, c⟩ := am_run_inv n d i pc' L' S' h1 r h' hi q o1 o2 o3
      exact ⟨am_gr_t g a, b, c⟩
    · intro r0 o q
      cases q
      exact ⟨am_gr_r, hh, o⟩
    · intro j as rk pc' S' o1 o2 _ hj q
      obtain ⟨d', rfl, r1, h1, q1, q2⟩ := q
      obtain ⟨a, b, c⟩ := am_run_inv n d' j 0 (am_en j as) [] h r1 h1 hj q1 (am_okL_en o1) (fun v hv => by cases hv) hh
      obtain ⟨a2, b2, c2⟩ := am_run_inv n (d' + 1) i pc' L (r1.toList ++ S') h1 r h' hi (am_rk_f q2) hL (am_ok_app c o2) b
      exact ⟨am_gr_t a a2, b2, c2⟩
/-- the entry's locals -/
theorem am_lr_en {b aS j : Nat} {as : List am_V} (h : ∀ v ∈ as, am_okv v) {ls : Array Slot} (hl : lv_has ls (am_mx j) (lv_args 0 (as.map (am_cv b aS)))) : am_lr b aS (am_en j as) ls (am_mx j) := by
  refine ⟨hl.1, hl.2.1, fun k v hv => ⟨?_, am_okL_en h k v hv⟩⟩
  have h1 := am_lg_pad _ _ _ _ hv
  have key : ∀ (as : List am_V) (k i : Nat), am_lg (am_sl as) k = some v → (i + k, am_cv b aS v) ∈ lv_args i (as.map (am_cv b aS)) := by
    intro as
    induction as with
    | nil => intro k i h; simp [am_sl, am_lg] at h
    | cons a t ih =>
      intro k i h
      rw [List.map_cons, lv_args]
      cases k with
      | zero =>
        simp [am_sl, am_lg] at h
        rw [h]; exact List.mem_cons_self
      | succ k =>
        simp only [am_sl, am_lg] at h
        rw [am_cat_cv]
        cases hc : am_c1 a with
        | true =>
          rw [hc] at h
          have := ih k (i + 1) h
          rw [show i + 1 + k = i + (k + 1) by omega] at this
          exact List.mem_cons_of_mem _ this
        | false =>
          rw [hc] at h
          cases k with
          | zero => simp [am_lg] at h
          | succ k =>
            have := ih k (i + 2) h
            rw [show i + 2 + k = i + (k + 1 + 1) by omega] at this
            exact List.mem_cons_of_mem _ this
  have := key as k 0 h1
  rw [Nat.zero_add] at this
  exact hl.2.2 _ this
theorem am_sl_len (b aS : Nat) : ∀ (as : List am_V), (lg_sl (as.map (am_cv b aS))).length = am_cw as
  | [] => rfl
  | v :: t => by
    have ih := am_sl_len b aS t
    unfold lg_sl at ih ⊢
    rw [List.map_cons, List.flatMap_cons, List.length_append, ih, am_cat_cv, am_cw]
    cases am_c1 v <;> rfl
def am_snd (l : Launch) (X : State → Prop) (D : va_G) (cy : Nat → ClassId) (b aS : Nat) (d : Nat) : Prop := ∀ (n j : Nat) (as : List am_V) (h : am_H) (r : Option am_V) (h' : am_H), j < 281 → am_run n d j 0 (am_en j as) [] h = some (r, h') → (∀ v ∈ as, am_okv v) → am_okh h → am_cw as ≤ am_mx j →
  ∃ mc ms : Nat, Met l (am_y j) (am_wj j) (am_rm d mc ms) (am_Pc X D cy b aS as h) (am_Qc D cy b aS (am_A b h.1.2.length h.1.1) r h') mc ms (am_A b h.1.2.length h.1.1) ∧ (h.1.2.length + mc = h'.1.2.length ∧ am_sz h.1.2 + ms = am_sz h'.1.2)
/-- what is asked of X: it is blind to frames, goes on while cells are made, and gives the rows of the words -/
def am_XX (l : Launch) (X : State → Prop) (b aS : Nat) : Prop := (∀ (U : State) (g : JFrame) (mk : MethodId) (a : Array Value), X U → X (U.calling g mk a)) ∧ (∀ s : State, X s → am_xt X b s) ∧
  ∀ (p : Program) (e : Env) (R : Room) (s : State) (m : MethodId) (args : Array Value) (below : List Frame) (meth : Method) (c : Code) (i : Nat), i < 281 → p.tables.exec = Jvm.exec → c.code = am_c i → c.maxLocals = am_mx i → s.vm.findClass (am_y i).cls = some m.cls → (∀ w ∈ am_tw, w.before args s = true) → 1 ≤ R.frames → 64 ≤ R.locals → X s → am_sx p l e R s m args below meth c b aS i
set_option maxHeartbeats 4000000 in
theorem am_sound {l : Launch} {X : State → Prop} {D : va_G} {cy : Nat → ClassId} {b aS : Nat} (hX : am_XX l X b aS) : ∀ d, am_snd l X D cy b aS d := by
  intro d
  induction d using Nat.strongRecOn with
  | ind d IH =>
    intro n j as h r h' hj hr has hh hcw
    obtain ⟨g0, hh', hok⟩ := am_run_inv n d j 0 (am_en j as) [] h r h' hj hr (am_okL_en has) (fun v hv => by cases hv) hh
    refine ⟨h'.1.2.length - h.1.2.length, am_sz h'.1.2 - am_sz h.1.2, ?_, by have := g0.2.1; omega, by have := g0.2.2.1; omega⟩
    refine Met.ofW (am_okj hj).2.2.2.2.2.2.1 rfl ?_
    intro p e s m args below meth c s₁ B hml hv
    obtain ⟨hargs, hP, hK, hnst, hAO, htg⟩ := hv
    have hts := atoms_spec (ws := am_wj j) B.pre
    have hts2 : ∀ w ∈ am_tw, w.before args s = true := fun w hw => hts w (List.mem_cons_of_mem _ hw)
    have hown : s.vm.findClass (am_y j).cls = some m.cls := findClass_of_methodNamed B.named
    have F : am_fx p l e (am_rm d (h'.1.2.length - h.1.2.length) (am_sz h'.1.2 - am_sz h.1.2)) s m args below meth c D cy b aS h.1.2.length h.1.1 j :=
      ⟨B.exec, B.bytes, hml, hown, hts2, hK, B.notSynchronized, B.returns, (name_of_methodNamed B.named B.method).1, hnst, hAO, hj, by show 1 ≤ d + 1; omega, by show 64 ≤ 64 * (d + 1); omega, fun z => (htg z).1, fun z => hX.2.2 p e _ s m args below meth c j hj B.exec B.bytes hml hown hts2 (by show 1 ≤ d + 1; omega) (by show 64 ≤ 64 * (d + 1); omega) (htg z).2⟩
    have hXt : h.1.1 = true → am_xt X b s := fun z => hX.2.1 s (htg z).2
    have key : ∀ (k pc : Nat) (L : List (Option am_V)) (S : List am_V) (h1 : am_H), am_run k d j pc L S h1 = some (r, h') → am_okL L → (∀ v ∈ S, am_okv v) → am_okh h1 → h1.1.1 = h.1.1 → am_Gd p l e (am_rm d (h'.1.2.length - h.1.2.length) (am_sz h'.1.2 - am_sz h.1.2)) s m args below meth c (MQ below (am_Qc D cy b aS (am_A b h.1.2.length h.1.1) r h') args s (h'.1.2.length - h.1.2.length) (am_sz h'.1.2 - am_sz h.1.2) (am_A b h.1.2.length h.1.1)) D cy b aS h.1.2.length (am_sz h.1.2) h.1.1 j pc L S h1 := by
      intro k
      induction k with
      | zero => intro pc L S h1 q; simp [am_run] at q
      | succ k ih =>
        intro pc L S h1 q o1 o2 o3 o4
        obtain ⟨e', len, dn, di, ht, st⟩ := am_run_st q
        refine am_step (mc := h'.1.2.length - h.1.2.length) (ms := am_sz h'.1.2 - am_sz h.1.2) F hX.1 hXt e' len dn di (am_oki hj ht) st o1 o2 o3 ?_ ?_ ?_
        · intro pc' L' S' h2 q2 gg a1 a2 a3
          obtain ⟨c1, c2, c3⟩ := am_run_inv k d j pc' L' S' h2 r h' hj q2 a1 a2 a3
          refine ⟨⟨?_, ?_⟩, ih pc' L' S' h2 q2 a1 a2 a3 (gg.1.trans o4)⟩
          · show h2.1.2.length ≤ h'.1.2.length - h.1.2.length + h.1.2.length
            have := c1.2.1; have := g0.2.1; omega
          · show am_sz h2.1.2 ≤ am_sz h'.1.2 - am_sz h.1.2 + am_sz h.1.2
            have := c1.2.2.1; have := g0.2.2.1; omega
        · intro r0 q2
          cases q2
          exact ⟨⟨by have := g0.2.1; omega, by have := g0.2.2.1; omega⟩, rfl⟩
        · intro j2 as2 rk pc' S' a1 a2 a3 hj2 q2
          obtain ⟨d', rfl, r1, h2, q3, q4⟩ := q2
          obtain ⟨b1, b2, b3⟩ := am_run_inv k d' j2 0 (am_en j2 as2) [] h1 r1 h2 hj2 q3 (am_okL_en a1) (fun v hv => by cases hv) o3
          obtain ⟨c1, c2, c3⟩ := am_run_inv k (d' + 1) j pc' L (r1.toList ++ S') h2 r h' hj (am_rk_f q4) o1 (am_ok_app b3 a2) b2
          obtain ⟨mc, ms, hM, hm⟩ := IH d' (by omega) k j2 as2 h1 r1 h2 hj2 q3 a1 o3 a3
          refine ⟨d', r1, h2, ⟨mc, ms, by rw [← o4]; exact hM, by show d' + 2 ≤ d' + 1 + 1; omega, by show 64 * (d' + 2) ≤ 64 * (d' + 1 + 1); omega, hm, ⟨?_, ?_⟩, ⟨b1.1.trans o4, fun z => by rw [b1.2.2.2 (o4.trans z)]⟩, b2, b3⟩, ih pc' L (r1.toList ++ S') h2 (am_rk_f q4) o1 (am_ok_app b3 a2) b2 (b1.1.trans o4)⟩
          · show h2.1.2.length ≤ h'.1.2.length - h.1.2.length + h.1.2.length
            have := c1.2.1; have := g0.2.1; omega
          · show am_sz h2.1.2 ≤ am_sz h'.1.2 - am_sz h.1.2 + am_sz h.1.2
            have := c1.2.2.1; have := g0.2.2.1; omega
    have hl := lv_entry (as.map (am_cv b aS)) (n := am_mx j) (by rw [am_sl_len]; exact hcw)
    rw [hargs, lg_entry_eq]
    generalize (lg_sl (as.map (am_cv b aS)) ++ List.replicate (am_mx j - (lg_sl (as.map (am_cv b aS))).length) Slot.unset).toArray = ls at hl ⊢
    rw [← hargs]
    refine key n 0 (am_en j as) [] h hr (am_okL_en has) (fun v hv => by cases hv) hh rfl ls s.heap [] 0 0 ⟨am_lr_en has hl, (fun v hv => by cases hv), hh, hP, va_S.rf, by omega, by omega, rfl, fun _ => rfl⟩
