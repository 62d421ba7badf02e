/-! arrays -/
theorem am_ofN (n : Nat) : Int32.ofNat n = Int32.ofInt (n : Int) := (Int32.ofInt_eq_ofNat).symm
theorem am_ln_in {h : am_H} (hh : am_okh h) (a : Nat) : am_in (am_ln h a) ∧ 0 ≤ am_ln h a := by
  have : (h.1.2.getD a (99, 0)).2 ≤ 4096 := by
    rw [List.getD_eq_getElem?_getD]
    cases hq : h.1.2[a]? with
    | none => exact Nat.zero_le _
    | some q => exact hh.2.2 q (List.mem_of_getElem? hq)
  unfold am_ln am_in
  omega
section
variable {h : am_H} {a : Nat} {j v : Int}
theorem am_updI (h0 : 0 ≤ j) (hj : am_in j) : (fun q : Nat => Int32.ofInt (am_up h.2.1 a j v a (q : Int))) = upd (fun q : Nat => Int32.ofInt (h.2.1 a (q : Int))) (Int32.ofInt j).toNatClampNeg (Int32.ofInt v) := by
  funext q
  rw [am_clamp hj]
  unfold upd am_up
  by_cases e : q = j.toNat
  · rw [if_pos e, if_pos ⟨rfl, by omega⟩]
  · rw [if_neg e, if_neg (fun z => e (by omega))]
theorem am_updL (h0 : 0 ≤ j) (hj : am_in j) : (fun q : Nat => Int64.ofInt (am_up h.2.2.1 a j v a (q : Int))) = vp_updL (fun q : Nat => Int64.ofInt (h.2.2.1 a (q : Int))) (Int32.ofInt j).toNatClampNeg (Int64.ofInt v) := by
  funext q
  rw [am_clamp hj]
  unfold vp_updL am_up
  by_cases e : q = j.toNat
  · rw [if_pos e, if_pos ⟨rfl, by omega⟩]
  · rw [if_neg e, if_neg (fun z => e (by omega))]
theorem am_updR {b : Nat} {w : Nat} (h0 : 0 ≤ j) (hj : am_in j) : (fun q : Nat => (am_up h.2.2.2 a j (some w) a (q : Int)).map (b + ·)) = va_up (fun q : Nat => (h.2.2.2 a (q : Int)).map (b + ·)) (Int32.ofInt j).toNatClampNeg (some (b + w)) := by
  funext q
  rw [am_clamp hj]
  unfold va_up am_up
  by_cases e : q = j.toNat
  · rw [if_pos e, if_pos ⟨rfl, by omega⟩]; rfl
  · rw [if_neg e, if_neg (fun z => e (by omega))]
end
section
variable {p : Program} {l : Launch} {e : Env} {R : Room} {s : State} {m : MethodId} {args : Array Value} {below : List Frame} {meth : Method} {c : Code} {Q : State → Prop}
variable {D : va_G} {cy : Nat → ClassId} {b aS n0 z0 : Nat} {tg : Bool} {i : Nat} {pc : Nat} {L : List (Option am_V)} {S : List am_V} {h : am_H}
theorem am_vin {a : Nat} {j : Int} (h0 : 0 ≤ j) (h1 : j < am_ln h a) (hj : am_in j) : vp_in (Int32.ofInt j) (h.1.2.getD a (99, 0)).2 := am_idx h0 h1 hj
theorem am_cl0 {j : Int} (h0 : 0 ≤ j) (hj : am_in j) : (((Int32.ofInt j).toNatClampNeg : Nat) : Int) = j := by rw [am_clamp hj]; omega
theorem sn_iald (F : am_fx p l e R s m args below meth c D cy b aS n0 tg i) {a : Nat} {j : Int} (hd : decode (am_c i) pc = .ok (.iaload, 1)) (hk : am_kd h a = 13 ∧ 0 ≤ j ∧ j < am_ln h a) (kk : am_Gd p l e R s m args below meth c Q D cy b aS n0 z0 tg i (pc + 1) L (.inl (h.2.1 a j) :: S) h) : am_Gd p l e R s m args below meth c Q D cy b aS n0 z0 tg i pc L (.inl j :: .inr (.inr (.inl (some a))) :: S) h := by
  intro ls H locs cells slots P
  obtain ⟨hx, hb, hml, hown, hts, hK, -⟩ := F
  obtain ⟨o1, o2⟩ := am_ok2 P.2.1
  obtain ⟨-, o3⟩ := am_ok2 o2
  have hlt : a < h.1.2.length := am_kd_lt hk.1 (by omega)
  refine va_iald hx hb hK P.2.2.2.1 a 1 ((am_ws_get hlt).trans (by rw [am_ce_int hk.1 (by omega)])) rfl (am_vin hk.2.1 hk.2.2 o1) hd ?_
  show W p l e R s m args below meth c H locs cells slots Q (F0 m (pc + 1) ls (.int (Int32.ofInt (h.2.1 a (((Int32.ofInt j).toNatClampNeg : Nat) : Int))) :: S.map (am_cv b aS)))
  rw [am_cl0 hk.2.1 o1]
  exact kk _ _ _ _ _ (P.st (am_ok1 (P.2.2.1.1 _ _) o3))
theorem sn_bald (F : am_fx p l e R s m args below meth c D cy b aS n0 tg i) {a kd : Nat} {j : Int} (hd : decode (am_c i) pc = .ok (.baload, 1)) (hkd : kd = 12 ∨ kd = 15) (hk : am_kd h a = kd ∧ 0 ≤ j ∧ j < am_ln h a) (kk : am_Gd p l e R s m args below meth c Q D cy b aS n0 z0 tg i (pc + 1) L (.inl (h.2.1 a j) :: S) h) : am_Gd p l e R s m args below meth c Q D cy b aS n0 z0 tg i pc L (.inl j :: .inr (.inr (.inl (some a))) :: S) h := by
  intro ls H locs cells slots P
  obtain ⟨hx, hb, hml, hown, hts, hK, -⟩ := F
  obtain ⟨o1, o2⟩ := am_ok2 P.2.1
  obtain ⟨-, o3⟩ := am_ok2 o2
  have hlt : a < h.1.2.length := am_kd_lt hk.1 (by omega)
  have k2 : W p l e R s m args below meth c H locs cells slots Q (F0 m (pc + 1) ls (.int (Int32.ofInt (h.2.1 a (((Int32.ofInt j).toNatClampNeg : Nat) : Int))) :: S.map (am_cv b aS))) := by
    rw [am_cl0 hk.2.1 o1]
    exact kk _ _ _ _ _ (P.st (am_ok1 (P.2.2.1.1 _ _) o3))
  rcases hkd with rfl | rfl
  · exact va_bald hx hb hK P.2.2.2.1 a 0 ((am_ws_get hlt).trans (by rw [am_ce_int hk.1 (by omega)])) rfl (am_vin hk.2.1 hk.2.2 o1) hd k2
  · exact va_zald hx hb hK P.2.2.2.1 a 3 ((am_ws_get hlt).trans (by rw [am_ce_int hk.1 (by omega)])) rfl (am_vin hk.2.1 hk.2.2 o1) hd k2
theorem sn_lald (F : am_fx p l e R s m args below meth c D cy b aS n0 tg i) {a : Nat} {j : Int} (hd : decode (am_c i) pc = .ok (.laload, 1)) (hk : am_kd h a = 14 ∧ 0 ≤ j ∧ j < am_ln h a) (kk : am_Gd p l e R s m args below meth c Q D cy b aS n0 z0 tg i (pc + 1) L (.inr (.inl (h.2.2.1 a j)) :: S) h) : am_Gd p l e R s m args below meth c Q D cy b aS n0 z0 tg i pc L (.inl j :: .inr (.inr (.inl (some a))) :: S) h := by
  intro ls H locs cells slots P
  obtain ⟨hx, hb, hml, hown, hts, hK, -⟩ := F
  obtain ⟨o1, o2⟩ := am_ok2 P.2.1
  obtain ⟨-, o3⟩ := am_ok2 o2
  have hlt : a < h.1.2.length := am_kd_lt hk.1 (by omega)
  refine va_lald hx hb hK P.2.2.2.1 a 2 ((am_ws_get hlt).trans (by rw [am_ce_long hk.1])) rfl (am_vin hk.2.1 hk.2.2 o1) hd ?_
  show W p l e R s m args below meth c H locs cells slots Q (F0 m (pc + 1) ls (.long (Int64.ofInt (h.2.2.1 a (((Int32.ofInt j).toNatClampNeg : Nat) : Int))) :: S.map (am_cv b aS)))
  rw [am_cl0 hk.2.1 o1]
  exact kk _ _ _ _ _ (P.st (am_ok1 (P.2.2.1.2.1 _ _) o3))
theorem sn_aald (F : am_fx p l e R s m args below meth c D cy b aS n0 tg i) {a : Nat} {j : Int} (hd : decode (am_c i) pc = .ok (.aaload, 1)) (hk : am_kd h a = 16 ∧ 0 ≤ j ∧ j < am_ln h a) (kk : am_Gd p l e R s m args below meth c Q D cy b aS n0 z0 tg i (pc + 1) L (.inr (.inr (.inl (h.2.2.2 a j))) :: S) h) : am_Gd p l e R s m args below meth c Q D cy b aS n0 z0 tg i pc L (.inl j :: .inr (.inr (.inl (some a))) :: S) h := by
  intro ls H locs cells slots P
  obtain ⟨hx, hb, hml, hown, hts, hK, -⟩ := F
  obtain ⟨o1, o2⟩ := am_ok2 P.2.1
  obtain ⟨-, o3⟩ := am_ok2 o2
  have hlt : a < h.1.2.length := am_kd_lt hk.1 (by omega)
  refine va_aldq hx hb hK P.2.2.2.1 a 4 ((am_ws_get hlt).trans (by rw [am_ce_ref hk.1])) rfl (am_vin hk.2.1 hk.2.2 o1) hd ?_
  show W p l e R s m args below meth c H locs cells slots Q (F0 m (pc + 1) ls (va_rf ((h.2.2.2 a (((Int32.ofInt j).toNatClampNeg : Nat) : Int)).map (b + ·)) :: S.map (am_cv b aS)))
  rw [am_cl0 hk.2.1 o1]
  exact kk _ _ _ _ _ (P.st (am_ok1 trivial o3))
theorem sn_iast (F : am_fx p l e R s m args below meth c D cy b aS n0 tg i) {a : Nat} {j v : Int} (hd : decode (am_c i) pc = .ok (.iastore, 1)) (hk : am_kd h a = 13 ∧ 0 ≤ j ∧ j < am_ln h a) (kk : am_Gd p l e R s m args below meth c Q D cy b aS n0 z0 tg i (pc + 1) L S (am_sI h a j v)) : am_Gd p l e R s m args below meth c Q D cy b aS n0 z0 tg i pc L (.inl v :: .inl j :: .inr (.inr (.inl (some a))) :: S) h := by
  intro ls H locs cells slots P
  obtain ⟨hx, hb, hml, hown, hts, hK, -⟩ := F
  obtain ⟨o0, o1⟩ := am_ok2 P.2.1
  obtain ⟨o1, o2⟩ := am_ok2 o1
  obtain ⟨-, o3⟩ := am_ok2 o2
  have hlt : a < h.1.2.length := am_kd_lt hk.1 (by omega)
  refine va_iast hx hb hK P.2.2.2.1 P.dj P.2.2.2.2.1 a 1 ((am_ws_get hlt).trans (by rw [am_ce_int hk.1 (by omega)])) rfl (am_vin hk.2.1 hk.2.2 o1) hd fun H1 locs1 p1 _ p3 => ?_
  have hw := am_ws_set (cy := cy) (b := b) (aS := aS) (h := h) (h' := am_sI h a j v) (a := a) rfl (fun q hq => am_up_ne _ _ _ _ hq) (fun _ _ => rfl) (fun _ _ => rfl) (e := Sum.inl (cy 13, (h.1.2.getD a (99, 0)).2, Sum.inl (upd (fun q : Nat => Int32.ofInt (h.2.1 a (q : Int))) (Int32.ofInt j).toNatClampNeg (Int32.ofInt v)))) (by rw [am_ce_int (h := am_sI h a j v) hk.1 (by omega)]; exact congrArg (fun z => (Sum.inl (cy 13, (h.1.2.getD a (99, 0)).2, Sum.inl z) : va_E)) (am_updI hk.2.1 o1))
  have p1 : va_P D vwCl (am_ws cy b aS (am_sI h a j v)) H1 := by
    rw [← hw]; exact p1
  exact kk _ _ _ _ _ (P.wr rfl o3 (am_okh_sI P.2.2.1 o0) p1 p3)
theorem sn_bast (F : am_fx p l e R s m args below meth c D cy b aS n0 tg i) {a : Nat} {j v : Int} (hd : decode (am_c i) pc = .ok (.bastore, 1)) (hk : am_kd h a = 12 ∧ 0 ≤ j ∧ j < am_ln h a) (kk : am_Gd p l e R s m args below meth c Q D cy b aS n0 z0 tg i (pc + 1) L S (am_sI h a j (am_wb v))) : am_Gd p l e R s m args below meth c Q D cy b aS n0 z0 tg i pc L (.inl v :: .inl j :: .inr (.inr (.inl (some a))) :: S) h := by
  intro ls H locs cells slots P
  obtain ⟨hx, hb, hml, hown, hts, hK, -⟩ := F
  obtain ⟨o0, o1⟩ := am_ok2 P.2.1
  obtain ⟨o1, o2⟩ := am_ok2 o1
  obtain ⟨-, o3⟩ := am_ok2 o2
  have hlt : a < h.1.2.length := am_kd_lt hk.1 (by omega)
  refine va_bast hx hb hK P.2.2.2.1 P.dj P.2.2.2.2.1 a 0 ((am_ws_get hlt).trans (by rw [am_ce_int hk.1 (by omega)])) rfl (am_vin hk.2.1 hk.2.2 o1) hd fun H1 locs1 p1 _ p3 => ?_
  rw [vp_nar_byte, am_i2b o0] at p1
  have hw := am_ws_set (cy := cy) (b := b) (aS := aS) (h := h) (h' := am_sI h a j (am_wb v)) (a := a) rfl (fun q hq => am_up_ne _ _ _ _ hq) (fun _ _ => rfl) (fun _ _ => rfl) (e := Sum.inl (cy 12, (h.1.2.getD a (99, 0)).2, Sum.inl (upd (fun q : Nat => Int32.ofInt (h.2.1 a (q : Int))) (Int32.ofInt j).toNatClampNeg (Int32.ofInt (am_wb v))))) (by rw [am_ce_int (h := am_sI h a j (am_wb v)) hk.1 (by omega)]; exact congrArg (fun z => (Sum.inl (cy 12, (h.1.2.getD a (99, 0)).2, Sum.inl z) : va_E)) (am_updI hk.2.1 o1))
  have p1 : va_P D vwCl (am_ws cy b aS (am_sI h a j (am_wb v))) H1 := by
    rw [← hw]; exact p1
  exact kk _ _ _ _ _ (P.wr rfl o3 (am_okh_sI P.2.2.1 (am_wb_in _)) p1 p3)
theorem sn_zast (F : am_fx p l e R s m args below meth c D cy b aS n0 tg i) {a : Nat} {j v : Int} (hd : decode (am_c i) pc = .ok (.bastore, 1)) (hk : am_kd h a = 15 ∧ 0 ≤ j ∧ j < am_ln h a) (hv : v = 0 ∨ v = 1) (kk : am_Gd p l e R s m args below meth c Q D cy b aS n0 z0 tg i (pc + 1) L S (am_sI h a j v)) : am_Gd p l e R s m args below meth c Q D cy b aS n0 z0 tg i pc L (.inl v :: .inl j :: .inr (.inr (.inl (some a))) :: S) h := by
  intro ls H locs cells slots P
  obtain ⟨hx, hb, hml, hown, hts, hK, -⟩ := F
  obtain ⟨o0, o1⟩ := am_ok2 P.2.1
  obtain ⟨o1, o2⟩ := am_ok2 o1
  obtain ⟨-, o3⟩ := am_ok2 o2
  have hlt : a < h.1.2.length := am_kd_lt hk.1 (by omega)
  have ev : vp_nar .boolean (Int32.ofInt v) = Int32.ofInt v := by rcases hv with rfl | rfl <;> decide
  refine va_zast hx hb hK P.2.2.2.1 P.dj P.2.2.2.2.1 a 3 ((am_ws_get hlt).trans (by rw [am_ce_int hk.1 (by omega)])) rfl (am_vin hk.2.1 hk.2.2 o1) hd fun H1 locs1 p1 _ p3 => ?_
  rw [ev] at p1
  have hw := am_ws_set (cy := cy) (b := b) (aS := aS) (h := h) (h' := am_sI h a j v) (a := a) rfl (fun q hq => am_up_ne _ _ _ _ hq) (fun _ _ => rfl) (fun _ _ => rfl) (e := Sum.inl (cy 15, (h.1.2.getD a (99, 0)).2, Sum.inl (upd (fun q : Nat => Int32.ofInt (h.2.1 a (q : Int))) (Int32.ofInt j).toNatClampNeg (Int32.ofInt v)))) (by rw [am_ce_int (h := am_sI h a j v) hk.1 (by omega)]; exact congrArg (fun z => (Sum.inl (cy 15, (h.1.2.getD a (99, 0)).2, Sum.inl z) : va_E)) (am_updI hk.2.1 o1))
  have p1 : va_P D vwCl (am_ws cy b aS (am_sI h a j v)) H1 := by
    rw [← hw]; exact p1
  exact kk _ _ _ _ _ (P.wr rfl o3 (am_okh_sI P.2.2.1 o0) p1 p3)
theorem sn_last (F : am_fx p l e R s m args below meth c D cy b aS n0 tg i) {a : Nat} {j v : Int} (hd : decode (am_c i) pc = .ok (.lastore, 1)) (hk : am_kd h a = 14 ∧ 0 ≤ j ∧ j < am_ln h a) (kk : am_Gd p l e R s m args below meth c Q D cy b aS n0 z0 tg i (pc + 1) L S (am_sL h a j v)) : am_Gd p l e R s m args below meth c Q D cy b aS n0 z0 tg i pc L (.inr (.inl v) :: .inl j :: .inr (.inr (.inl (some a))) :: S) h := by
  intro ls H locs cells slots P
  obtain ⟨hx, hb, hml, hown, hts, hK, -⟩ := F
  obtain ⟨o0, o1⟩ := am_ok2 P.2.1
  obtain ⟨o1, o2⟩ := am_ok2 o1
  obtain ⟨-, o3⟩ := am_ok2 o2
  have hlt : a < h.1.2.length := am_kd_lt hk.1 (by omega)
  refine va_last hx hb hK P.2.2.2.1 P.dj P.2.2.2.2.1 a 2 ((am_ws_get hlt).trans (by rw [am_ce_long hk.1])) rfl (am_vin hk.2.1 hk.2.2 o1) hd fun H1 locs1 p1 _ p3 => ?_
  have hw := am_ws_set (cy := cy) (b := b) (aS := aS) (h := h) (h' := am_sL h a j v) (a := a) rfl (fun _ _ => rfl) (fun q hq => am_up_ne _ _ _ _ hq) (fun _ _ => rfl) (e := Sum.inl (cy 14, (h.1.2.getD a (99, 0)).2, Sum.inr (Sum.inl (vp_updL (fun q : Nat => Int64.ofInt (h.2.2.1 a (q : Int))) (Int32.ofInt j).toNatClampNeg (Int64.ofInt v))))) (by rw [am_ce_long (h := am_sL h a j v) hk.1]; exact congrArg (fun z => (Sum.inl (cy 14, (h.1.2.getD a (99, 0)).2, Sum.inr (Sum.inl z)) : va_E)) (am_updL hk.2.1 o1))
  have p1 : va_P D vwCl (am_ws cy b aS (am_sL h a j v)) H1 := by
    rw [← hw]; exact p1
  exact kk _ _ _ _ _ (P.wr rfl o3 (am_okh_sL P.2.2.1 o0) p1 p3)
theorem sn_aast (F : am_fx p l e R s m args below meth c D cy b aS n0 tg i) {a w : Nat} {j : Int} (hd : decode (am_c i) pc = .ok (.aastore, 1)) (hk : am_kd h a = 16 ∧ am_kd h w = 6 ∧ 0 ≤ j ∧ j < am_ln h a) (kk : am_Gd p l e R s m args below meth c Q D cy b aS n0 z0 tg i (pc + 1) L S (am_sR h a j (some w))) : am_Gd p l e R s m args below meth c Q D cy b aS n0 z0 tg i pc L (.inr (.inr (.inl (some w))) :: .inl j :: .inr (.inr (.inl (some a))) :: S) h := by
  intro ls H locs cells slots P
  obtain ⟨hx, hb, hml, hown, hts, hK, -⟩ := F
  obtain ⟨o0, o1⟩ := am_ok2 P.2.1
  obtain ⟨o1, o2⟩ := am_ok2 o1
  obtain ⟨-, o3⟩ := am_ok2 o2
  have hlt : a < h.1.2.length := am_kd_lt hk.1 (by omega)
  have hlw : w < h.1.2.length := am_kd_lt hk.2.1 (by omega)
  refine va_astq hx hb hK P.2.2.2.1 P.dj P.2.2.2.2.1 a 4 w 6 (r := (RX6, TX6, 9)) ((am_ws_get hlt).trans (by rw [am_ce_ref hk.1])) rfl ((am_ws_get hlw).trans (by rw [am_ce_obj hk.2.1 (by omega)])) rfl (am_vin hk.2.2.1 hk.2.2.2 o1) hd fun H1 locs1 p1 _ p3 => ?_
  have hw := am_ws_set (cy := cy) (b := b) (aS := aS) (h := h) (h' := am_sR h a j (some w)) (a := a) rfl (fun _ _ => rfl) (fun _ _ => rfl) (fun q hq => am_up_ne _ _ _ _ hq) (e := Sum.inl (cy 16, (h.1.2.getD a (99, 0)).2, Sum.inr (Sum.inr (Sum.inr (Sum.inr (va_up (fun q : Nat => (h.2.2.2 a (q : Int)).map (b + ·)) (Int32.ofInt j).toNatClampNeg (some (b + w)))))))) (by rw [am_ce_ref (h := am_sR h a j (some w)) hk.1]; exact congrArg (fun z => (Sum.inl (cy 16, (h.1.2.getD a (99, 0)).2, Sum.inr (Sum.inr (Sum.inr (Sum.inr z)))) : va_E)) (am_updR hk.2.2.1 o1))
  have p1 : va_P D vwCl (am_ws cy b aS (am_sR h a j (some w))) H1 := by
    rw [← hw]; exact p1
  exact kk _ _ _ _ _ (P.wr rfl o3 (am_okh_sR P.2.2.1) p1 p3)
theorem sn_alen (F : am_fx p l e R s m args below meth c D cy b aS n0 tg i) {a kd : Nat} (hd : decode (am_c i) pc = .ok (.arraylength, 1)) (hkd : kd = 12 ∨ kd = 13 ∨ kd = 14 ∨ kd = 15) (hk : am_kd h a = kd) (kk : am_Gd p l e R s m args below meth c Q D cy b aS n0 z0 tg i (pc + 1) L (.inl (am_ln h a) :: S) h) : am_Gd p l e R s m args below meth c Q D cy b aS n0 z0 tg i pc L (.inr (.inr (.inl (some a))) :: S) h := by
  intro ls H locs cells slots P
  obtain ⟨hx, hb, hml, hown, hts, hK, -⟩ := F
  obtain ⟨-, o3⟩ := am_ok2 P.2.1
  have hlt : a < h.1.2.length := am_kd_lt hk (by omega)
  have k2 := kk _ _ _ _ _ (P.st (am_ok1 (am_ln_in P.2.2.1 a).1 o3))
  have ev : Int32.ofNat (h.1.2.getD a (99, 0)).2 = Int32.ofInt (am_ln h a) := am_ofN _
  rcases hkd with rfl | rfl | rfl | rfl
  · exact va_alen hx hb hK P.2.2.2.1 a 0 ((am_ws_get hlt).trans (by rw [am_ce_int hk (by omega)])) rfl ev hd k2
  · exact va_alen hx hb hK P.2.2.2.1 a 1 ((am_ws_get hlt).trans (by rw [am_ce_int hk (by omega)])) rfl ev hd k2
  · exact va_alen hx hb hK P.2.2.2.1 a 2 ((am_ws_get hlt).trans (by rw [am_ce_long hk])) rfl ev hd k2
  · exact va_alen hx hb hK P.2.2.2.1 a 3 ((am_ws_get hlt).trans (by rw [am_ce_int hk (by omega)])) rfl ev hd k2
end
