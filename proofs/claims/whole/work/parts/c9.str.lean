/-! c9: length() and charAt() of the words, by contract -/
abbrev st_tx : String := "kind has deed do purse wage seed law apart heal luck or and not own other gap shows heals level day "
def st_by : List Int32 := am_str.map Int32.ofNat
abbrev st_A (b : Nat) : Nat → Prop := fun q => b ≤ q
def st_V (b aS aV : Nat) (U : State) : Prop := vk_S 1 [100] [st_by] (fun _ => aS) (fun _ => aV) (st_A b) U U.heap ∧ va_Z RJ0 "COMPACT_STRINGS" "Z" (.int 1) (st_A b) U U.heap ∧ va_Zq RJ3 "SIOOBE_FORMATTER" "Ljava/util/function/BiFunction;" (st_A b) U U.heap
theorem st_V.cg {b aS aV : Nat} {U : State} (h : st_V b aS aV U) (g : JFrame) (mk : MethodId) (a : Array Value) : st_V b aS aV (U.calling g mk a) := ⟨vk_S.moved (u := U) (Vm.Alike.refl U.vm) h.1, va_Z.moved (u := U) (Vm.Alike.refl U.vm) h.2.1, va_Zq.moved (u := U) (Vm.Alike.refl U.vm) h.2.2⟩
theorem st_V.to {b aS aV : Nat} {s U : State} {H : Heap} {locs : List Loc} (h : st_V b aS aV s) (hU : U.heap = H) (hW : s.WarmedH U.vm) (hS : va_S (st_A b) s.heap H locs) : st_V b aS aV U := ⟨by rw [hU]; exact vk_S.moved hW.alike (h.1.kept hS.2.1), by rw [hU]; exact va_Z.moved hW.alike (h.2.1.kept hS.2.1), by rw [hU]; exact va_Zq.moved hW.alike (h.2.2.kept hS.2.1)⟩
def st_Q (v : Option Value) : Array Value → State → Outcome → State → Prop := fun _ st oc t => oc = .returned v ∧ t.heap = st.heap
abbrev st_no : Nat → Prop := fun _ => False
theorem st_call {p : Program} {l : Launch} {e : Env} {R : Room} {s : State} {m : MethodId} {args : Array Value} {below : List Frame} {meth : Method} {c : Code} {Q : State → Prop} {pc : Nat} {H : Heap} {locs : List Loc} {cells slots : Nat} {ls : Array Slot} {st0 rest : List Value} {v : Option Value} {a : Array Value} (hr : va_Run p l e R s m args below meth c H locs cells slots 0 0 (F0 m pc ls st0) rest (st_Q v a) st_no) (kk : W p l e R s m args below meth c H locs cells slots Q (F0 m (pc + 3) ls (v.toList ++ rest))) : W p l e R s m args below meth c H locs cells slots Q (F0 m pc ls st0) := by
  intro T hT X
  obtain ⟨v2, st₀, t, T', L, h0, X', hL, e1, e2, ⟨hv, hh⟩, st⟩ := hr T hT X
  cases hv
  have hL0 : L = [] := List.eq_nil_iff_forall_not_mem.mpr (fun q hq => hL q hq)
  subst hL0
  rw [List.append_nil] at X'
  obtain ⟨t2, a1, b1⟩ := kk T' (by rw [e1, hh, h0]) X'
  exact ⟨t2, st t2 a1, b1⟩
abbrev st_rm (d : Nat) : Room := { frames := d, cells := 0, slots := 0, locals := 64 * d }
abbrev st_w (y : MethodName) (cc : ByteArray) (n : Nat) (r : Option FieldType) : List Cond := Cond.code y cc n r :: am_tw
theorem st_good {y : MethodName} {cc : ByteArray} {n : Nat} {r : Option FieldType} (h : Cond.code y cc n r ∈ am_tw) : GoodIn am_tw (st_w y cc n r) := fun w hw => by
  rcases List.mem_cons.mp hw with rfl | hw
  · exact am_tw_good _ h
  · exact am_tw_good _ hw
theorem st_blind {b aS aV : Nat} {av : List Value} : FrameBlind (va_Pc av (st_V b aS aV)) := fun a U g mk hp => ⟨hp.1, hp.2.cg g mk a⟩
theorem st_blind0 {av : List Value} : FrameBlind (va_Pc av (fun _ => True)) := fun a U g mk hp => ⟨hp.1, trivial⟩
theorem st_lt {k : Nat} (hk : k < 100) : ¬ Int32.ofInt (k : Int) < 0 ∧ Int32.ofInt (k : Int) < Int32.ofInt 100 := by
  have e0 : (0 : Int32) = Int32.ofInt 0 := rfl
  constructor
  · intro z; rw [e0] at z; have := (am_lt0 (by unfold am_in; omega) (by unfold am_in; omega)).mp z; omega
  · exact (am_lt0 (by unfold am_in; omega) (by unfold am_in; omega)).mpr (by omega)
theorem st_ck3 {l : Launch} {k : Nat} (hk : k < 100) {f : Value} (hf : f = .null ∨ ∃ q, f = .ref q) : Met l yJ3_checkIndex_8e157 (st_w yJ3_checkIndex_8e157 cJ3_checkIndex_8e157 3 (some .int)) (st_rm 1) (va_Pc [.int (Int32.ofInt (k : Int)), .int (Int32.ofInt 100), f] (fun _ => True)) (st_Q (some (.int (Int32.ofInt (k : Int))))) 0 0 st_no := by
  refine Met.ofW (cc := cJ3_checkIndex_8e157) (maxL := 3) (ret := some .int) (by decide) rfl ?_
  intro p e s m args below meth c s₁ B hml hv
  obtain ⟨rfl, -⟩ := hv
  have hx := B.exec
  have hb := B.bytes
  have hr := B.returns
  have hlk := B.notSynchronized
  have hfc : f.category = 1 := by rcases hf with rfl | ⟨q, rfl⟩ <;> rfl
  have hl : ∃ ls, entryFrame m #[Value.int (Int32.ofInt (k : Int)), Value.int (Int32.ofInt 100), f] 3 = F0 m 0 ls [] ∧ lv_has ls 3 [(0, .int (Int32.ofInt (k : Int))), (1, .int (Int32.ofInt 100))] := by
    rcases hf with rfl | ⟨q, rfl⟩
    · have hl := lv_entry ([.int (Int32.ofInt (k : Int)), .int (Int32.ofInt 100), .null]) (n := 3) (Nat.le_of_ble_eq_true rfl)
      exact ⟨_, lg_entry_eq _ _ _, lv_sub hl [0, 1] rfl⟩
    · have hl := lv_entry ([.int (Int32.ofInt (k : Int)), .int (Int32.ofInt 100), .ref q]) (n := 3) (Nat.le_of_ble_eq_true rfl)
      exact ⟨_, lg_entry_eq _ _ _, lv_sub hl [0, 1] rfl⟩
  obtain ⟨ls, el, hl⟩ := hl
  rw [el]
  refine lv_iload_n hx hb dJ3_checkIndex_8e157_0 rfl (lv_at hl 0 rfl) ?_
  refine lv_if_lt (tgt := 9) hx hb dJ3_checkIndex_8e157_1 (by decide) (fun z => absurd z (st_lt hk).1) (fun _ => ?_)
  refine lv_iload_n hx hb dJ3_checkIndex_8e157_4 rfl (lv_at hl 0 rfl) ?_
  refine lv_iload_n hx hb dJ3_checkIndex_8e157_5 rfl (lv_at hl 1 rfl) ?_
  refine lv_icmp_lt (tgt := 16) hx hb dJ3_checkIndex_8e157_6 (by decide) (fun _ => ?_) (fun z => absurd (st_lt hk).2 z)
  refine lv_iload_n hx hb dJ3_checkIndex_8e157_16 rfl (lv_at hl 0 rfl) ?_
  exact W.iret hx hb hr (fun t ht _ => ⟨rfl, ht⟩) (fun q hq => nomatch hq) dJ3_checkIndex_8e157_17 hlk
theorem st_ck0 {l : Launch} {b aS aV k : Nat} (hk : k < 100) : Met l yJ0_checkIndex_df160 (st_w yJ0_checkIndex_df160 cJ0_checkIndex_df160 2 none) (st_rm 2) (va_Pc [.int (Int32.ofInt (k : Int)), .int (Int32.ofInt 100)] (st_V b aS aV)) (st_Q none) 0 0 st_no := by
  refine Met.ofW (cc := cJ0_checkIndex_df160) (maxL := 2) (ret := none) (by decide) rfl ?_
  intro p e s m args below meth c s₁ B hml hv
  obtain ⟨rfl, hV⟩ := hv
  have hx := B.exec
  have hb := B.bytes
  have hr := B.returns
  have hlk := B.notSynchronized
  have hts0 := atoms_spec (ws := st_w yJ0_checkIndex_df160 cJ0_checkIndex_df160 2 none) B.pre
  have hts : ∀ w ∈ am_tw, w.before #[Value.int (Int32.ofInt (k : Int)), Value.int (Int32.ofInt 100)] s = true := fun w hw => hts0 w (List.mem_cons_of_mem _ hw)
  have hown : s.vm.findClass RJ0 = some m.cls := findClass_of_methodNamed B.named
  have hl := lv_entry ([.int (Int32.ofInt (k : Int)), .int (Int32.ofInt 100)]) (n := 2) (Nat.le_of_ble_eq_true rfl)
  rw [lg_entry_eq]
  generalize (lg_sl ([.int (Int32.ofInt (k : Int)), .int (Int32.ofInt 100)]) ++ List.replicate (2 - (lg_sl ([.int (Int32.ofInt (k : Int)), .int (Int32.ofInt 100)])).length) Slot.unset).toArray = ls at hl ⊢
  have hl : lv_has ls 2 [(0, .int (Int32.ofInt (k : Int))), (1, .int (Int32.ofInt 100))] := hl
  refine lv_iload_n hx hb dJ0_checkIndex_df160_0 rfl (lv_at hl 0 rfl) ?_
  refine lv_iload_n hx hb dJ0_checkIndex_df160_1 rfl (lv_at hl 1 rfl) ?_
  have go : ∀ f : Value, (f = .null ∨ ∃ q, f = .ref q) → W p l e (st_rm 2) s m #[Value.int (Int32.ofInt (k : Int)), Value.int (Int32.ofInt 100)] below meth c s.heap [] 0 0 (MQ below (st_Q none) #[Value.int (Int32.ofInt (k : Int)), Value.int (Int32.ofInt 100)] s 0 0 st_no) (F0 m 5 ls [f, .int (Int32.ofInt 100), .int (Int32.ofInt (k : Int))]) := by
    intro f hf
    refine st_call (va_runS (n := 3) (own := RJ0) (index := 1059) (As := [.int (Int32.ofInt (k : Int)), .int (Int32.ofInt 100), f]) (rest := []) ⟨hx, hb, hml, hown, hts⟩ (st_ck3 hk hf) ⟨callB_of 3 hts (st_good (am_hw_in (z := (1, 234)) (by decide +kernel))) rfl rfl rfl (hts _ (am_hw_in (z := (1, 8)) (by decide +kernel))) (hts _ (am_hw_in (z := (1, 232)) (by decide +kernel))) (by decide) ⟨by decide, by decide⟩, hts _ (am_hw_in (z := (1, 233)) (by decide +kernel))⟩ ⟨st_blind0, fun U hU hW => ⟨rfl, trivial⟩⟩ rfl rfl hl.1 rfl (lv_room (by decide)) dJ0_checkIndex_df160_5 ⟨by decide, by decide⟩) ?_
    refine lv_pop hx hb dJ0_checkIndex_df160_8 rfl ?_
    exact W.vret hx hb hr (fun t ht _ => ⟨rfl, ht⟩) (fun q hq => nomatch hq) dJ0_checkIndex_df160_9 hlk
  rcases hV.2.2 with hz | ⟨q, hz⟩
  · exact va_gets hx hb hz va_S.rf hown (hts _ (am_hw_in (z := (1, 230)) (by decide +kernel))) (fun _ h => h) dJ0_checkIndex_df160_2 (go _ (Or.inl rfl))
  · exact va_gets hx hb hz va_S.rf hown (hts _ (am_hw_in (z := (1, 230)) (by decide +kernel))) (fun _ h => h) dJ0_checkIndex_df160_2 (go _ (Or.inr ⟨q, rfl⟩))
theorem st_ch : ∀ k : Fin 100, ((((st_by.getD k.val 0) &&& 255).toUInt32 % 65536).toInt32 = Int32.ofInt (am_str.getD k.val 0 : Nat)) ∧ narrow .char (.int (Int32.ofInt (am_str.getD k.val 0 : Nat))) = .int (Int32.ofInt (am_str.getD k.val 0 : Nat)) := by decide +kernel
