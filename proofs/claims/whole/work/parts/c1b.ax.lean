/-! c1b: 'throw new X("text")' where X hands its text on to its superclass at any entry of its pool (NoSuchElementException: 13) -/
/-- what a throw asks of the thrown class beside its chain: the library's own list, behind the chain's words -/
def ax_tail (own : String) (ic : Nat) (X : String) : List Cond := (Bundle.ownAtoms own ic X []).drop (Bundle.throwableAtoms ++ Bundle.throwableSAtoms ++ Bundle.chainSAtoms X []).length
def ax_own (own : String) (ic : Nat) (X Y : String) (ix : Nat) (rx : ByteArray) (names : List String) : List Cond := Bundle.throwableAtoms ++ Bundle.throwableSAtoms ++ (Bundle.passSAtoms X Y ix rx ++ Bundle.chainSAtoms Y names) ++ ax_tail own ic X
def ax_at (own : String) (ic : Nat) (X Y : String) (ix : Nat) (rx : ByteArray) (names : List String) : List Cond := (ax_own own ic X Y ix rx names).filter vx_no
section AXC
variable {p : Program} {l : Launch} {e : Env} {R : Room} {s : State} {m₀ : MethodId} {args : Array Value} {below : List Frame} {meth : Method} {c : Code} {W : State} {locs : List Loc} {cells slots : Nat} {pl : Platform}
theorem ax_in1 {own X Y : String} {ic ix : Nat} {rx : ByteArray} {names : List String} {w : Cond} (i : Nat) (hi : (ax_tail own ic X)[i]? = some w) : w ∈ ax_own own ic X Y ix rx names := List.mem_append_right _ (List.mem_of_getElem? hi)
/-- X's constructor, then its superclasses': each hands the text on -/
theorem ax_chain {X Y : String} {ix : Nat} {rx : ByteArray} {names : List String} {top : MethodId} (hpl : pl.magicAccessors = ({} : Platform).magicAccessors) (htop : s.methodNamed? (Bundle.initS Bundle.tN) = some top)
    (x0 : decode rx 0 = .ok (.aload_n 0, 1)) (x1 : decode rx 1 = .ok (.aload_n 1, 1)) (x2 : decode rx 2 = .ok (.invokespecial ix, 3)) (x5 : decode rx 5 = .ok (.return_, 1))
    (hX : Bundle.fit X = true) (hY : Bundle.fit Y = true) (hn : ∀ n ∈ names, Bundle.fit n = true) (h : ∀ w ∈ Bundle.passSAtoms X Y ix rx ++ Bundle.chainSAtoms Y names, w.before args s = true) :
    ∃ (P : PassC) (Ps : List PassC), Ps.length = names.length + 1 ∧ (∀ Q ∈ P :: Ps, Q.LinksS pl s) ∧ s.methodNamed? (Bundle.initS X) = some P.m ∧ PassesOn top ((P :: Ps).map (·.toPassT)) := by
  obtain ⟨P, hP, hPm, hPs⟩ := PassC.ofS_atoms (args := args) (s := s) hpl (Bundle.fit_spec hX).1 (Bundle.fit_spec hY).2 x0 x1 x2 x5 (fun w hw => h w (List.mem_append_left _ hw))
  obtain ⟨Q, Qs, hlen, hQ, hQs, hQm, hQ1, hQ2⟩ := Bundle.chainS (args := args) hpl htop names Y hY hn (fun w hw => h w (List.mem_append_right _ hw))
  exact ⟨P, Q :: Qs, by rw [List.length_cons, hlen], List.forall_mem_cons.mpr ⟨hP, List.forall_mem_cons.mpr ⟨hQ, hQs⟩⟩, hPm, (show PassesOn top ((P :: Q :: Qs).map (·.toPassT)) from And.intro (Option.some.inj (hPs.symm.trans hQm)) (And.intro hQ1 hQ2))⟩
/-- a class that takes a method of Throwable as it is -/
theorem ax_sel {X : String} {y : MethodName} {k : ClassId} {id : MethodId} (hC : s.vm.findClass X = some k) (hn : s.methodNamed? y = some id) (hy : y.cls ≠ "java/lang/invoke/MethodHandle" ∧ y.cls ≠ "java/lang/invoke/VarHandle")
    (h : (Cond.selects X y y).holds args s none s [] = true) : selectMethod {} s.vm k id = .method id := by
  obtain ⟨k1, r, n, e1, e2, e3, e4, -⟩ := Cond.selects_spec h
  have f1 : k1 = k := Option.some.inj (e1.symm.trans hC)
  have f2 : n = id := Option.some.inj (e3.symm.trans hn)
  have f3 : r = id := Option.some.inj (e2.symm.trans (State.methodFound?_of_named hn hy))
  rw [f1, f2, f3] at e4
  exact e4
/-- Throwable's two constants -/
theorem ax_stat {T : ThrowableC} {Z : Init0T} (L : T.Links pl s) (Y : Bundle.Ties T Z s) (hu : (Cond.isRef (.static Bundle.tN "UNASSIGNED_STACK" Bundle.steD)).holds args s none s [] = true) (hv : (Cond.isRef (.static Bundle.tN "SUPPRESSED_SENTINEL" Bundle.listD)).holds args s none s [] = true) :
    ∃ (x : Cell) (u v : RefV), s.heap[T.aS]? = some x ∧ x.vm.isStatics = true ∧ x.slots[T.fUnassigned.slot]? = some u.v ∧ x.slots[T.fSentinel.slot]? = some v.v := by
  obtain ⟨x, hx, hs⟩ := Y.statics
  obtain ⟨u, h1⟩ := Cond.staticRefV Y.unassigned L.unassignedStatic L.statics hx hs hu
  obtain ⟨v, h2⟩ := Cond.staticRefV Y.sentinel L.sentinelStatic L.statics hx hs hv
  exact ⟨x, u, v, hx, hs, h1, h2⟩
theorem ax_slot {x : Cell} {i j : Nat} {v : Value} (h : i ≠ j) : (x.setSlot i v).slots[j]? = x.slots[j]? := by
  unfold Cell.setSlot
  exact Array.getElem?_setIfInBounds_ne h
/-- a fresh object of X takes what Throwable's constructor writes, and its backtrace stays null -/
theorem ax_fresh {own X : String} {ic : Nat} {k : ClassId} {K : Class} {T : ThrowableC} {Z : Init0T} (hpl : pl.magicAccessors = ({} : Platform).magicAccessors) (L : T.Links pl s) (Y : Bundle.Ties T Z s) (hC : s.vm.findClass X = some k) (hK : s.vm.classes[k]? = some K) (ho : K.kind = .ordinary)
    (h : ∀ (i : Nat) (w : Cond), (ax_tail own ic X)[i]? = some w → w.holds args s none s [] = true) (u v : RefV) :
    (∀ a : Addr, Takes s (freshCell k K) T.fCause (.ref a)) ∧ Takes s (freshCell k K) T.fStack u.v ∧ Takes s (freshCell k K) T.fSupp v.v ∧ (∀ g : RefV, Takes s (freshCell k K) T.fMsg g.v) ∧
      ∀ (a : Addr) (t : ThreadId), SkipFacts T pl s (fun z => z) u ((preparedCellV T.toThrowableT (freshCell k K) a u v).withEntry t) := by
  obtain ⟨i0, m0⟩ := Y.msg
  obtain ⟨c1, q1, c2, c3⟩ := Cond.laysAt hC hK Y.cause (h 5 _ rfl)
  obtain ⟨s1, q2, s2, s3⟩ := Cond.laysAt hC hK Y.stack (h 6 _ rfl)
  obtain ⟨p1, q3, p2, p3⟩ := Cond.laysAt hC hK Y.supp (h 7 _ rfl)
  obtain ⟨m1, -, -, -⟩ := Cond.laysAt hC hK m0 (h 8 _ rfl)
  obtain ⟨ci, i, f, f1, f2, f3, f4, -, f6, f7, f8⟩ := Cond.ownField (t := .object "java/lang/Object") Y.found L.cls (by decide +kernel) (h 11 _ rfl) (h 12 _ rfl) pl hpl
  obtain ⟨b1, q4, b2, b3⟩ := Cond.laysAt hC hK f8 (h 13 _ rfl)
  have n1 : T.fCause.slot ≠ f.slot := Cond.laysApart c2 b2 c3 b3 (by rw [Y.causeName, f6]; decide)
  have n2 : T.fStack.slot ≠ f.slot := Cond.laysApart s2 b2 s3 b3 (by rw [Y.stackName, f6]; decide)
  have n3 : T.fSupp.slot ≠ f.slot := Cond.laysApart p2 b2 p3 b3 (by rw [Y.suppName, f6]; decide)
  have hnull : (freshCell k K).slots[f.slot]? = some .null := by
    have z := fresh_default (c := k) b1
    rw [f7] at z
    exact z
  refine ⟨fun a => Takes.of_laid hK ho c1 ?_, Takes.of_laid hK ho s1 ?_, Takes.of_laid hK ho p1 ?_, fun g => Takes.of_laid hK ho m1 ?_, fun a t => ⟨⟨ci, i, f⟩, ⟨f1, f2, f3, f4⟩, ?_, fun _ _ => rfl⟩⟩
  · rw [Y.causeType]; rfl
  · rw [Y.stackType]; exact fits_refV_array _ u
  · rw [Y.suppType]; exact fits_refV_object _ v
  · rw [Y.msgType]; exact fits_refV_object _ g
  · show (preparedCellV T.toThrowableT (freshCell k K) a u v).slots[f.slot]? = some .null
    unfold preparedCellV
    rw [ax_slot (by assumption), ax_slot (by assumption), ax_slot (by assumption)]
    exact hnull
set_option maxHeartbeats 1000000 in
/-- from the call of X's constructor over a fresh X to its throw -/
theorem ax_ctorS (X : Stand p l e R s m₀ args below meth c W locs cells slots) (hexec : p.tables.exec = Jvm.exec) (htr : e.platform.stackTraces = false) {own cls Y0 : String} {names : List String} {ic ix : Nat} {rx : ByteArray}
    (x0 : decode rx 0 = .ok (.aload_n 0, 1)) (x1 : decode rx 1 = .ok (.aload_n 1, 1)) (x2 : decode rx 2 = .ok (.invokespecial ix, 3)) (x5 : decode rx 5 = .ok (.return_, 1)) (hY0 : Bundle.fit Y0 = true)
    (hown : s.vm.findClass own = some m₀.cls) (hcls : Bundle.fit cls = true) (hnames : ∀ n ∈ names, Bundle.fit n = true) (h : ∀ w ∈ ax_own own ic cls Y0 ix rx names, w.before args s = true)
    (hlocs : ∀ x ∈ locs, ∀ cell, s.heap[x.base]? = some cell → cell.vm.isStatics = false)
    {a : Addr} {cX : ClassId} {kX : Class} (hfX : s.vm.findClass cls = some cX) (hkX : s.vm.classes[cX]? = some kX) (hcell : W.heap[a]? = some (freshCell cX kX)) (hnew : s.heap.size ≤ a) {msg : Value} (hmsg : msg.isRef = true)
    {g : JFrame} (hg : g.method = m₀) (hsize : g.locals.size = c.maxLocals) (hlk : g.locked = none) (hent : g.entered = []) {rest : List Value} (hst : g.stack = msg :: .ref a :: .ref a :: rest)
    (d6 : decode c.code g.pc = .ok (.invokespecial ic, 3)) (d9 : decode c.code (g.pc + 3) = .ok (.athrow, 1)) (hout : ∀ x ∈ c.exceptionTable.toList, covers x (g.pc + 3) = false)
    (hRf : names.length + 4 < R.frames) (hRl : 2 * g.monitorRoom + ((Value.ref a :: rest).map fun v => v.category).sum + (13 * (names.length + 2) + 42) ≤ R.locals) (hlocks : meth.locks = false) :
    ∃ U : State, Steps p.tables e below (W.setTop g) U ∧ U.status = .running ∧ Ended U below (.threw a) ∧ s.WarmedH U.vm ∧ s.sameButNew ({ U with vm := s.vm } : State) locs cells slots ∧
      ∃ ce, U.heap[a]? = some ce ∧ s.vm.findClass cls = some ce.cls ∧ ce.vm = .none := by
  have hpf := X.admits.platform
  have hpl : e.platform.magicAccessors = ({} : Platform).magicAccessors := by rw [hpf]
  have ht : ∀ (i : Nat) (w : Cond), (ax_tail own ic cls)[i]? = some w → w.holds args s none s [] = true := fun i w hi => h w (ax_in1 i hi)
  have hA : ∀ w ∈ Bundle.throwableAtoms ++ Bundle.throwableSAtoms ++ (Bundle.passSAtoms cls Y0 ix rx ++ Bundle.chainSAtoms Y0 names), w.before args s = true := fun w hw => h w (List.mem_append_left _ hw)
  obtain ⟨T, Z0, L, -, Y⟩ := ThrowableC.of_atoms (args := args) (by rw [hpf]) (by rw [hpf]) hpl (fun w hw => hA w (List.mem_append_left _ (List.mem_append_left _ hw)))
  obtain ⟨Z, M, LZ, LM, hZ⟩ := Init0T.ofS_atoms (args := args) hpl L Y (fun w hw => hA w (List.mem_append_left _ (List.mem_append_right _ hw)))
  have hC : ∀ w ∈ Bundle.passSAtoms cls Y0 ix rx ++ Bundle.chainSAtoms Y0 names, w.before args s = true := fun w hw => hA w (List.mem_append_right _ hw)
  obtain ⟨P, Ps, hlen, hPs, hPm, hon⟩ := ax_chain (args := args) hpl hZ x0 x1 x2 x5 hcls hY0 hnames hC
  have hPc : cX = P.m.cls := Option.some.inj (hfX.symm.trans (findClass_of_methodNamed hPm))
  obtain ⟨k1, K1, i1, i2, i3, -, -, -⟩ := Cond.instantiable_spec (ht 1 _ rfl)
  have hk1 : k1 = cX := Option.some.inj (i1.symm.trans hfX)
  rw [hk1, hkX] at i2
  have hK1 : K1.kind = kX.kind := by rw [Option.some.inj i2]
  obtain ⟨x, u, v, hx, hxs, hxu, hxv⟩ := ax_stat L Y (ht 9 _ rfl) (ht 10 _ rfl)
  obtain ⟨tC, tS, tP, tM, hskip⟩ := ax_fresh (args := args) hpl L Y hfX hkX (hK1.symm.trans i3) ht u v
  obtain ⟨x', hx', hxe, -, hkeep⟩ := X.same.2.2.2.2.2 T.aS x hx
  have hfar : ∀ i, (⟨T.aS, i⟩ : Loc) ∉ locs := fun i hi => Bool.noConfusion ((hlocs _ hi x hx).symm.trans hxs)
  have hx2 : W.heap[T.aS]? = some x' := hx'
  have hkn : x'.vm ≠ .unknown := by
    intro z
    rw [hxe] at z
    rw [show x.vm = .unknown from z] at hxs
    cases hxs
  have hne : T.aS ≠ a := fun z => Nat.not_lt.mpr hnew (z ▸ (Array.getElem?_eq_some_iff.mp hx).1)
  obtain ⟨tm, _, _, _, vm1, r1, -, -, -, -, -, -, -, hW1, st1⟩ := Steps.initColdS (tb := p.tables) (e := e) (below := below) (s := s) (U := W) X.here hexec X.warmed hpl hown (t := Bundle.initS cls) rfl rfl (Bundle.fit_spec hcls).2 (ht 0 _ rfl)
    (hC _ (List.mem_append_left _ (List.mem_of_getElem? (i := 0) rfl))) (bytes := rx) (maxL := 2) (hC _ (List.mem_append_left _ (List.mem_of_getElem? (i := 1) rfl))) (f := g) hg (a := a) (msg := msg) (rest := .ref a :: rest) hst d6
  have htm : tm = P.m := Option.some.inj (r1.symm.trans hPm)
  obtain ⟨vm2, X2, st2⟩ := (X.noted hW1).ctorMessageOffV hexec (g := { g with stack := .ref a :: rest }) hg hsize T L Z LZ M LM (P :: Ps) hPs hon (u0 := u) (sen := v) (self := a) hmsg (cell := freshCell cX kX) (cellS := x')
    hcell (fun _ => by simp) (by simp) rfl rfl ((Launch.admits_selectMethod X.admits _ _ _).trans (ax_sel hfX Y.fill0 (by decide) (ht 3 _ rfl))) ((Launch.admits_selectMethod X.admits _ _ _).trans (ax_sel hfX Y.fill (by decide) (ht 4 _ rfl)))
    hx2 hne hkn ((hkeep _ (hfar _)).trans hxu) ((hkeep _ (hfar _)).trans hxv) (tC a) tS tP (tM ⟨msg, hmsg⟩) Y.objLocals (hskip a _) htr [] d6 (by rw [List.length_cons, hlen]; omega) (by rw [List.length_cons, hlen]; exact hRl)
  obtain ⟨o1, o2, o3, o4, o5⟩ := X2.athrowLeaves hexec (g := { g with stack := .ref a :: rest, pc := g.pc + 3 }) hg hlk hent hout (a := a) (rest := rest) rfl d9 hlocks
  have hU := heapAt_setCell_self (s := (W.setVm vm1).setVm vm2) (plainBareV T.toThrowableT (freshCell cX kX) a u v msg) (Array.getElem?_eq_some_iff.mp hcell).1
  refine ⟨_, st1 _ (fun acts => ?_), o2, o3, o4, o5.weaken (fun y hy hlt => ?_) (Nat.le_refl _) (Nat.le_refl _), _, hU, hfX, rfl⟩
  · rw [doInvoke_state, htm]
    exact st2 _ o1
  · refine (List.mem_append.mp hy).elim id (fun hy2 => absurd hlt (Nat.not_lt.mpr ?_))
    have hb : ∀ z ∈ [(⟨a, T.fCause.slot⟩ : Loc), ⟨a, T.fStack.slot⟩, ⟨a, T.fSupp.slot⟩, ⟨a, T.fStack.slot⟩, ⟨a, T.fMsg.slot⟩], z.base = a := by simp
    rw [hb y hy2]
    exact hnew
end AXC
section AXT
variable {p : Program} {l : Launch} {e : Env} {R : Room} {s : State} {m : MethodId} {args : Array Value} {below : List Frame} {meth : Method} {c : Code} {H : Heap} {locs : List Loc} {cells slots : Nat} {Q : State → Prop}
variable {mc ms : Nat} {free : Addr → Prop} {A0 A1 : Nat → Prop} {H0 : Heap} {a : Array Value} {ls : Array Slot} {st0 rest : List Value}
variable {Qc : Array Value → State → Outcome → State → Prop} {XC : String → State → State → Prop}
theorem ax_throwS {cc : ByteArray} {pc : Nat} (hexec : p.tables.exec = Jvm.exec) (hb : c.code = cc) (hl : l.stackTraces = false) {own cls text Y0 : String} {names : List String} {ik is ic mc ms sa ix : Nat} {rx : ByteArray} (x0 : decode rx 0 = .ok (.aload_n 0, 1)) (x1 : decode rx 1 = .ok (.aload_n 1, 1)) (x2 : decode rx 2 = .ok (.invokespecial ix, 3)) (x5 : decode rx 5 = .ok (.return_, 1)) (hY0 : Bundle.fit Y0 = true) {A : Nat → Prop}
    (hown : s.vm.findClass own = some m.cls) (hcls : Bundle.fit cls = true) (hnames : ∀ n ∈ names, Bundle.fit n = true)
    (hk : (Cond.classLink own ik cls).before args s = true) (hini : (Cond.initialized cls).before args s = true) (hstr : vk_R own is text sa s) (hat : ∀ w ∈ ax_at own ic cls Y0 ix rx names, w.before args s = true)
    (hgood : ∀ w ∈ Cond.classLink own ik cls :: Cond.initialized cls :: ax_at own ic cls Y0 ix rx names, vx_ot w = true)
    (hU : vx_Zq Bundle.tN "UNASSIGNED_STACK" Bundle.steD A s s.heap) (hN : vx_Zq Bundle.tN "SUPPRESSED_SENTINEL" Bundle.listD A s s.heap) (hS : va_S A s.heap H locs) (hsize : ls.size = c.maxLocals)
    (d0 : decode cc pc = .ok (.new ik, 3)) (d3 : decode cc (pc + 3) = .ok (.dup, 1)) (d4 : decode cc (pc + 4) = .ok (.ldc is, 2)) (d6 : decode cc (pc + 6) = .ok (.invokespecial ic, 3)) (d9 : decode cc (pc + 9) = .ok (.athrow, 1))
    (hout : ∀ x ∈ c.exceptionTable.toList, covers x (pc + 9) = false)
    (hRframes : names.length + 4 < R.frames) (hRlocals : (rest.map fun v => v.category).sum + (13 * (names.length + 2) + 43) ≤ R.locals) (hRcells : cells + 1 ≤ R.cells) (hRslots : slots + 6 ≤ R.slots) (hlocks : meth.locks = false)
    (hx : ∀ t : State, s.vm.Alike t.vm → H.size ≤ t.heap.size → (∀ q : Nat, q < H.size → t.heap[q]? = H[q]?) → XC cls s t)
    (hf : ∀ z ∈ locs, free z.base) (hc : cells + 1 ≤ mc) (hs : slots + 6 ≤ ms) :
    W p l e R s m args below meth c H locs cells slots (vx_MQ below Qc XC args s mc ms free) (F0 m pc ls rest) := by
  intro T hT X
  have htr : e.platform.stackTraces = false := (show e.platform.stackTraces = l.stackTraces by rw [X.admits.platform]).trans hl
  have Y := vx_rebase X (R' := { frames := R.frames, locals := R.locals, cells := 1, slots := 6 }) (Nat.le_refl _) (Nat.le_refl _) hRcells hRslots
  obtain ⟨s', hA⟩ : ∃ z, z = (T.setVm s.vm).setFrames (.invoking m args :: below) := ⟨_, rfl⟩
  rw [← hA] at Y
  have hvm : s'.vm = s.vm := by rw [hA]; rfl
  have hhp : s'.heap = H := by rw [hA]; exact hT
  have hW0 : s.WarmedH s'.vm := by rw [hvm]; exact State.WarmedH.refl s
  have hat' : ∀ w ∈ ax_at own ic cls Y0 ix rx names, w.before args s' = true := fun w hw => vx_ot_at hW0 hvm.symm (hgood w (List.mem_cons_of_mem _ (List.mem_cons_of_mem _ hw))) (hat w hw)
  have hk' : (Cond.classLink own ik cls).before args s' = true := vx_ot_at hW0 hvm.symm (hgood _ List.mem_cons_self) hk
  have hini' : (Cond.initialized cls).before args s' = true := vx_ot_at hW0 hvm.symm (hgood _ (List.mem_cons_of_mem _ List.mem_cons_self)) hini
  have hU' : vx_Zq Bundle.tN "UNASSIGNED_STACK" Bundle.steD A s' s'.heap := by rw [hhp]; exact vx_Zq.moved hW0.alike (hU.kept hS.2.1)
  have hN' : vx_Zq Bundle.tN "SUPPRESSED_SENTINEL" Bundle.listD A s' s'.heap := by rw [hhp]; exact vx_Zq.moved hW0.alike (hN.kept hS.2.1)
  have h : ∀ w ∈ ax_own own ic cls Y0 ix rx names, w.before args s' = true := vx_own hat' (vx_isRefq hU'.1) (vx_isRefq hN'.1) hU'.2.word hN'.2.word
  have hown' : s'.vm.findClass own = some m.cls := by rw [hvm]; exact hown
  have hins : (Cond.instantiable cls 6).before args s' = true := h _ (ax_in1 1 rfl)
  obtain ⟨vm₁, cX, kX, hfX, hkX, -, -, X₁, st1⟩ := Y.newCold hexec (own := own) (C := cls) (index := ik) (n := 6) hown' hk' hins hini'
    (g := F0 m pc ls rest) rfl (by rw [hb]; exact d0) (Nat.le_refl _) (Nat.le_refl _)
  generalize hT1 : (T.setVm vm₁).pushCell { cls := cX, slots := kX.instanceTypes.map defaultValue, vm := .none } = T1 at X₁ st1
  have hcat : (Value.ref T.heap.size).category = 1 := rfl
  have hcellA : T1.heap[T.heap.size]? = some (freshCell cX kX) := by rw [← hT1]; exact State.heap_pushCell_size _ _
  have d3' : decode c.code (pc + 3) = .ok (.dup, 1) := by rw [hb]; exact d3
  have d4' : decode c.code (pc + 4) = .ok (.ldc is, 2) := by rw [hb]; exact d4
  have hstr' : vk_R own is text sa s' := vk_R.warm hW0 hstr
  obtain ⟨U, hsteps, hrun, hend, hW, hsame, ce, hce, hO, hO2⟩ := ax_ctorS X₁ hexec htr x0 x1 x2 x5 hY0 (own := own) (cls := cls) (names := names) (ic := ic) hown' hcls hnames h (fun x hx => nomatch hx) hfX hkX hcellA (by rw [hhp, hT]; exact Nat.le_refl _) (msg := .ref sa) rfl
    (g := { method := m, pc := pc + 6, locals := ls, stack := .ref sa :: .ref T.heap.size :: .ref T.heap.size :: rest, locked := none }) rfl hsize rfl rfl (rest := rest) rfl
    (by rw [hb]; exact d6) (by rw [hb]; exact d9) hout hRframes (by simp only [List.map_cons, List.sum_cons, hcat]; omega) hlocks
  obtain ⟨f1, f2⟩ := vx_frame hsame
  rw [hhp] at f1 f2
  have hWs : s.WarmedH U.vm := State.WarmedH.trans hW0 hW
  have hcl : s.vm.findClass cls = some ce.cls := by
    have h9 := hO
    rw [hvm] at h9
    exact h9
  have hall : s.sameButNew ({ U with vm := s.vm } : State) locs mc ms := by
    subst hA
    obtain ⟨e1, e2⟩ := hsame
    rw [State.setFrames_setFrames] at e1
    have h2 : (T.setVm s.vm).sameButNew ({ U with vm := s.vm } : State) [] (0 + 1) (0 + 6) := ⟨e1, e2⟩
    have h3 := X.same.trans h2
    rw [List.append_nil] at h3
    exact h3.mono hc hs
  refine ⟨U, ?_, .threw T.heap.size, hrun, hend, Or.inr ⟨T.heap.size, rfl, cls, ce, locs, hx U hWs.alike f1 (fun q hq => f2 q hq (fun z hz => nomatch hz)), hce, hO2, hcl, hWs, hall, hf⟩⟩
  refine st1 _ ?_
  show Steps p.tables e below (T1.setTop { method := m, pc := pc + 3, locals := ls, stack := .ref T.heap.size :: rest, locked := none }) _
  jvm_step X₁.here [X₁.here.top, hexec, d3', Value.category]
  exact X₁.ldcString hexec (own := own) (text := text) (index := is) (a := sa) hown' hstr'.1 hstr'.2
    (g := { method := m, pc := pc + 4, locals := ls, stack := .ref T.heap.size :: .ref T.heap.size :: rest, locked := none }) rfl d4' _ hsteps
end AXT
