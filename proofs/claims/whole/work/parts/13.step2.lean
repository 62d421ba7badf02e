/-- the three rows that the words of the language need -/
def am_sx (p : Program) (l : Launch) (e : Env) (R : Room) (s : State) (m : MethodId) (args : Array Value) (below : List Frame) (meth : Method) (c : Code) (b aS i : Nat) : Prop :=
  (am_k i = 8 → ∀ (Q : State → Prop) (H : Heap) (locs : List Loc) (cells slots pc : Nat) (ls : Array Slot) (rest : List Value), va_S (fun q => b ≤ q) s.heap H locs → decode (am_c i) pc = .ok (.ldc 28, 2) → W p l e R s m args below meth c H locs cells slots Q (F0 m (pc + 2) ls (.ref aS :: rest)) → W p l e R s m args below meth c H locs cells slots Q (F0 m pc ls rest)) ∧
  (i = 75 → ∀ (Q : State → Prop) (H : Heap) (locs : List Loc) (cells slots pc : Nat) (ls : Array Slot) (rest : List Value), va_S (fun q => b ≤ q) s.heap H locs → ls.size = am_mx 75 → (rest.map fun v => v.category).sum ≤ 8 → cells ≤ R.cells → slots ≤ R.slots →
    (decode (am_c 75) pc = .ok (.invokevirtual 30, 3) → W p l e R s m args below meth c H locs cells slots Q (F0 m (pc + 3) ls (.int (Int32.ofInt am_str.length) :: rest)) → W p l e R s m args below meth c H locs cells slots Q (F0 m pc ls (.ref aS :: rest))) ∧
    (∀ k : Nat, k < am_str.length → decode (am_c 75) pc = .ok (.invokevirtual 36, 3) → W p l e R s m args below meth c H locs cells slots Q (F0 m (pc + 3) ls (.int (Int32.ofInt (am_str.getD k 0 : Nat)) :: rest)) → W p l e R s m args below meth c H locs cells slots Q (F0 m pc ls (.int (Int32.ofInt k) :: .ref aS :: rest))))
def am_fx (p : Program) (l : Launch) (e : Env) (R : Room) (s : State) (m : MethodId) (args : Array Value) (below : List Frame) (meth : Method) (c : Code) (D : va_G) (cy : Nat → ClassId) (b aS n0 : Nat) (tg : Bool) (i : Nat) : Prop :=
  p.tables.exec = Jvm.exec ∧ c.code = am_c i ∧ c.maxLocals = am_mx i ∧ s.vm.findClass (am_y i).cls = some m.cls ∧ (∀ w ∈ am_tw, w.before args s = true) ∧ va_K D vwCl (am_ty cy) s ∧ meth.locks = false ∧ meth.sig.returnType = am_r i ∧ meth.name = (am_y i).name ∧
  (∀ w ∈ am_nst, va_Nw w s) ∧ va_AO RX6 s ∧ i < 281 ∧ 1 ≤ R.frames ∧ 64 ≤ R.locals ∧ (tg = true → s.heap.size = b + n0) ∧ (tg = true → am_sx p l e R s m args below meth c b aS i)
def am_pt (s : State) (D : va_G) (cy : Nat → ClassId) (b aS n0 z0 : Nat) (tg : Bool) (i : Nat) (L : List (Option am_V)) (S : List am_V) (h : am_H) (ls : Array Slot) (H : Heap) (locs : List Loc) (cells slots : Nat) : Prop :=
  am_lr b aS L ls (am_mx i) ∧ (∀ v ∈ S, am_okv v) ∧ am_okh h ∧ va_P D vwCl (am_ws cy b aS h) H ∧ va_S (am_A b n0 tg) s.heap H locs ∧ cells + n0 = h.1.2.length ∧ slots + z0 = am_sz h.1.2 ∧ h.1.1 = tg ∧ (tg = false → h.1.2.length = n0)
def am_Gd (p : Program) (l : Launch) (e : Env) (R : Room) (s : State) (m : MethodId) (args : Array Value) (below : List Frame) (meth : Method) (c : Code) (Q : State → Prop) (D : va_G) (cy : Nat → ClassId) (b aS n0 z0 : Nat) (tg : Bool) (i : Nat) (pc : Nat) (L : List (Option am_V)) (S : List am_V) (h : am_H) : Prop :=
  ∀ (ls : Array Slot) (H : Heap) (locs : List Loc) (cells slots : Nat), am_pt s D cy b aS n0 z0 tg i L S h ls H locs cells slots → W p l e R s m args below meth c H locs cells slots Q (F0 m pc ls (S.map (am_cv b aS)))
theorem am_pt.st {s : State} {D : va_G} {cy : Nat → ClassId} {b aS n0 z0 : Nat} {tg : Bool} {i : Nat} {L : List (Option am_V)} {S S' : List am_V} {h : am_H} {ls : Array Slot} {H : Heap} {locs : List Loc} {cells slots : Nat} (P : am_pt s D cy b aS n0 z0 tg i L S h ls H locs cells slots) (hS : ∀ v ∈ S', am_okv v) : am_pt s D cy b aS n0 z0 tg i L S' h ls H locs cells slots :=
  ⟨P.1, hS, P.2.2⟩
theorem am_pt.lc {s : State} {D : va_G} {cy : Nat → ClassId} {b aS n0 z0 : Nat} {tg : Bool} {i : Nat} {L L' : List (Option am_V)} {S S' : List am_V} {h : am_H} {ls ls' : Array Slot} {H : Heap} {locs : List Loc} {cells slots : Nat} (P : am_pt s D cy b aS n0 z0 tg i L S h ls H locs cells slots) (hL : am_lr b aS L' ls' (am_mx i)) (hS : ∀ v ∈ S', am_okv v) : am_pt s D cy b aS n0 z0 tg i L' S' h ls' H locs cells slots :=
  ⟨hL, hS, P.2.2⟩
theorem am_ok1 {v : am_V} {S : List am_V} (hv : am_okv v) (hS : ∀ v ∈ S, am_okv v) : ∀ w ∈ v :: S, am_okv w := fun w hw => (List.mem_cons.mp hw).elim (fun e => e ▸ hv) (hS w)
theorem am_ok2 {v : am_V} {S : List am_V} (h : ∀ w ∈ v :: S, am_okv w) : am_okv v ∧ ∀ w ∈ S, am_okv w := ⟨h v List.mem_cons_self, fun w hw => h w (List.mem_cons_of_mem _ hw)⟩
theorem am_b8 {n : Int} (h : -128 ≤ n ∧ n ≤ 127) : (Int8.ofInt n).toInt32 = Int32.ofInt n := by
  apply Int32.toInt_inj.mp
  rw [Int8.toInt_toInt32, Int8.toInt_ofInt, am_toI (by unfold am_in; omega), show Int8.size = 256 from rfl, Int.bmod_def]
  split <;> omega
theorem am_b16 {n : Int} (h : -32768 ≤ n ∧ n ≤ 32767) : (Int16.ofInt n).toInt32 = Int32.ofInt n := by
  apply Int32.toInt_inj.mp
  rw [Int16.toInt_toInt32, Int16.toInt_ofInt, am_toI (by unfold am_in; omega), show Int16.size = 65536 from rfl, Int.bmod_def]
  split <;> omega
theorem am_and_c (x y : Int) : Int32.ofInt x &&& Int32.ofInt y = Int32.ofInt (am_and x y) := (am_ofI _).symm
theorem am_or_c (x y : Int) : Int32.ofInt x ||| Int32.ofInt y = Int32.ofInt (am_or x y) := (am_ofI _).symm
theorem am_shl_c (x y : Int) : Int32.ofInt x <<< (Int32.ofInt y &&& 31) = Int32.ofInt (am_shl x y) := (am_ofI _).symm
theorem am_shr_c (x y : Int) : Int32.ofInt x >>> (Int32.ofInt y &&& 31) = Int32.ofInt (am_shr x y) := (am_ofI _).symm
theorem am_andl_c (x y : Int) : Int64.ofInt x &&& Int64.ofInt y = Int64.ofInt (am_andl x y) := (am_ofL _).symm
theorem am_idx {i : Int} {n : Nat} (h0 : 0 ≤ i) (h1 : i < n) (hi : am_in i) : vp_in (Int32.ofInt i) n := vp_in_iff.mpr (by rw [am_toI hi]; omega)
theorem am_clamp {i : Int} (hi : am_in i) : (Int32.ofInt i).toNatClampNeg = i.toNat := by
  show (Int32.ofInt i).toInt.toNat = _
  rw [am_toI hi]
section
variable {p : Program} {l : Launch} {e : Env} {R : Room} {s : State} {m : MethodId} {args : Array Value} {below : List Frame} {meth : Method} {c : Code} {Q : State → Prop}
variable {D : va_G} {cy : Nat → ClassId} {b aS n0 z0 : Nat} {tg : Bool} {i : Nat} {pc : Nat} {L : List (Option am_V)} {S : List am_V} {h : am_H}
theorem sn_iconst (F : am_fx p l e R s m args below meth c D cy b aS n0 tg i) {n : Int} (hd : decode (am_c i) pc = .ok (.iconst n, 1)) (hn : -1 ≤ n ∧ n ≤ 5) (k : am_Gd p l e R s m args below meth c Q D cy b aS n0 z0 tg i (pc + 1) L (.inl n :: S) h) : am_Gd p l e R s m args below meth c Q D cy b aS n0 z0 tg i pc L S h := by
  intro ls H locs cells slots P
  exact lv_iconst F.1 F.2.1 hd rfl (k _ _ _ _ _ (P.st (am_ok1 (show am_in n by unfold am_in; omega) P.2.1)))
theorem sn_bipush (F : am_fx p l e R s m args below meth c D cy b aS n0 tg i) {n : Int} (hd : decode (am_c i) pc = .ok (.bipush n, 2)) (hn : -128 ≤ n ∧ n ≤ 127) (k : am_Gd p l e R s m args below meth c Q D cy b aS n0 z0 tg i (pc + 2) L (.inl n :: S) h) : am_Gd p l e R s m args below meth c Q D cy b aS n0 z0 tg i pc L S h := by
  intro ls H locs cells slots P
  exact lv_bipush F.1 F.2.1 hd (am_b8 hn) (k _ _ _ _ _ (P.st (am_ok1 (show am_in n by unfold am_in; omega) P.2.1)))
theorem sn_sipush (F : am_fx p l e R s m args below meth c D cy b aS n0 tg i) {n : Int} (hd : decode (am_c i) pc = .ok (.sipush n, 3)) (hn : -32768 ≤ n ∧ n ≤ 32767) (k : am_Gd p l e R s m args below meth c Q D cy b aS n0 z0 tg i (pc + 3) L (.inl n :: S) h) : am_Gd p l e R s m args below meth c Q D cy b aS n0 z0 tg i pc L S h := by
  intro ls H locs cells slots P
  exact lv_sipush F.1 F.2.1 hd (am_b16 hn) (k _ _ _ _ _ (P.st (am_ok1 (show am_in n by unfold am_in; omega) P.2.1)))
theorem sn_lconst (F : am_fx p l e R s m args below meth c D cy b aS n0 tg i) {n : Fin 2} (hd : decode (am_c i) pc = .ok (.lconst n, 1)) (k : am_Gd p l e R s m args below meth c Q D cy b aS n0 z0 tg i (pc + 1) L (.inr (.inl (n.val : Int)) :: S) h) : am_Gd p l e R s m args below meth c Q D cy b aS n0 z0 tg i pc L S h := by
  intro ls H locs cells slots P
  have e : Int64.ofNat (n : Nat) = Int64.ofInt (n.val : Int) := (Int64.ofInt_eq_ofNat).symm
  exact lv_lconst F.1 F.2.1 hd e (k _ _ _ _ _ (P.st (am_ok1 (show am_inl (n.val : Int) by unfold am_inl; omega) P.2.1)))
theorem sn_iload_n (F : am_fx p l e R s m args below meth c D cy b aS n0 tg i) {q : Fin 4} {x : Int} (hd : decode (am_c i) pc = .ok (.iload_n q, 1)) (hx : am_lg L q.val = some (.inl x)) (k : am_Gd p l e R s m args below meth c Q D cy b aS n0 z0 tg i (pc + 1) L (.inl x :: S) h) : am_Gd p l e R s m args below meth c Q D cy b aS n0 z0 tg i pc L S h := by
  intro ls H locs cells slots P
  exact lv_iload_n F.1 F.2.1 hd rfl (P.1.2.2 _ _ hx).1 (k _ _ _ _ _ (P.st (am_ok1 (P.1.2.2 _ _ hx).2 P.2.1)))
theorem sn_iload (F : am_fx p l e R s m args below meth c D cy b aS n0 tg i) {q : Nat} {x : Int} (hd : decode (am_c i) pc = .ok (.iload q, 2)) (hx : am_lg L q = some (.inl x)) (k : am_Gd p l e R s m args below meth c Q D cy b aS n0 z0 tg i (pc + 2) L (.inl x :: S) h) : am_Gd p l e R s m args below meth c Q D cy b aS n0 z0 tg i pc L S h := by
  intro ls H locs cells slots P
  exact lv_iload F.1 F.2.1 hd (P.1.2.2 _ _ hx).1 (k _ _ _ _ _ (P.st (am_ok1 (P.1.2.2 _ _ hx).2 P.2.1)))
theorem sn_lload_n (F : am_fx p l e R s m args below meth c D cy b aS n0 tg i) {q : Fin 4} {x : Int} (hd : decode (am_c i) pc = .ok (.lload_n q, 1)) (hx : am_lg L q.val = some (.inr (.inl x))) (k : am_Gd p l e R s m args below meth c Q D cy b aS n0 z0 tg i (pc + 1) L (.inr (.inl x) :: S) h) : am_Gd p l e R s m args below meth c Q D cy b aS n0 z0 tg i pc L S h := by
  intro ls H locs cells slots P
  exact lv_lload_n F.1 F.2.1 hd rfl (P.1.2.2 _ _ hx).1 (k _ _ _ _ _ (P.st (am_ok1 (P.1.2.2 _ _ hx).2 P.2.1)))
theorem sn_lload (F : am_fx p l e R s m args below meth c D cy b aS n0 tg i) {q : Nat} {x : Int} (hd : decode (am_c i) pc = .ok (.lload q, 2)) (hx : am_lg L q = some (.inr (.inl x))) (k : am_Gd p l e R s m args below meth c Q D cy b aS n0 z0 tg i (pc + 2) L (.inr (.inl x) :: S) h) : am_Gd p l e R s m args below meth c Q D cy b aS n0 z0 tg i pc L S h := by
  intro ls H locs cells slots P
  exact lv_lload F.1 F.2.1 hd (P.1.2.2 _ _ hx).1 (k _ _ _ _ _ (P.st (am_ok1 (P.1.2.2 _ _ hx).2 P.2.1)))
theorem sn_aload_n (F : am_fx p l e R s m args below meth c D cy b aS n0 tg i) {q : Fin 4} {x : Option Nat} (hd : decode (am_c i) pc = .ok (.aload_n q, 1)) (hx : am_lg L q.val = some (.inr (.inr (.inl x)))) (k : am_Gd p l e R s m args below meth c Q D cy b aS n0 z0 tg i (pc + 1) L (.inr (.inr (.inl x)) :: S) h) : am_Gd p l e R s m args below meth c Q D cy b aS n0 z0 tg i pc L S h := by
  intro ls H locs cells slots P
  have hl := (P.1.2.2 _ _ hx).1
  have kk := k _ _ _ _ _ (P.st (am_ok1 (P.1.2.2 _ _ hx).2 P.2.1))
  cases x with
  | none => exact lv_aload_nN F.1 F.2.1 hd rfl hl kk
  | some x => exact lv_aload_n F.1 F.2.1 hd rfl hl kk
theorem sn_aload (F : am_fx p l e R s m args below meth c D cy b aS n0 tg i) {q : Nat} {x : Option Nat} (hd : decode (am_c i) pc = .ok (.aload q, 2)) (hx : am_lg L q = some (.inr (.inr (.inl x)))) (k : am_Gd p l e R s m args below meth c Q D cy b aS n0 z0 tg i (pc + 2) L (.inr (.inr (.inl x)) :: S) h) : am_Gd p l e R s m args below meth c Q D cy b aS n0 z0 tg i pc L S h := by
  intro ls H locs cells slots P
  have hl := (P.1.2.2 _ _ hx).1
  have kk := k _ _ _ _ _ (P.st (am_ok1 (P.1.2.2 _ _ hx).2 P.2.1))
  cases x with
  | none => exact lv_aloadN F.1 F.2.1 hd hl kk
  | some x => exact lv_aload F.1 F.2.1 hd hl kk
theorem sn_istore_n (F : am_fx p l e R s m args below meth c D cy b aS n0 tg i) {q : Fin 4} {x : Int} (hd : decode (am_c i) pc = .ok (.istore_n q, 1)) (hq : q.val < am_mx i) (k : am_Gd p l e R s m args below meth c Q D cy b aS n0 z0 tg i (pc + 1) (am_s1 L q.val (.inl x)) S h) : am_Gd p l e R s m args below meth c Q D cy b aS n0 z0 tg i pc L (.inl x :: S) h := by
  intro ls H locs cells slots P
  exact lv_istore_n F.1 F.2.1 hd rfl (am_lr_has P.1) hq rfl fun ls' h' => k _ _ _ _ _ (P.lc (am_lr_s1 P.1 (am_ok2 P.2.1).1 h') (am_ok2 P.2.1).2)
theorem sn_istore (F : am_fx p l e R s m args below meth c D cy b aS n0 tg i) {q : Nat} {x : Int} (hd : decode (am_c i) pc = .ok (.istore q, 2)) (hq : q < am_mx i) (k : am_Gd p l e R s m args below meth c Q D cy b aS n0 z0 tg i (pc + 2) (am_s1 L q (.inl x)) S h) : am_Gd p l e R s m args below meth c Q D cy b aS n0 z0 tg i pc L (.inl x :: S) h := by
  intro ls H locs cells slots P
  exact lv_istore F.1 F.2.1 hd (am_lr_has P.1) hq rfl fun ls' h' => k _ _ _ _ _ (P.lc (am_lr_s1 P.1 (am_ok2 P.2.1).1 h') (am_ok2 P.2.1).2)
theorem sn_lstore_n (F : am_fx p l e R s m args below meth c D cy b aS n0 tg i) {q : Fin 4} {x : Int} (hd : decode (am_c i) pc = .ok (.lstore_n q, 1)) (hq : q.val + 1 < am_mx i) (k : am_Gd p l e R s m args below meth c Q D cy b aS n0 z0 tg i (pc + 1) (am_s2 L q.val (.inr (.inl x))) S h) : am_Gd p l e R s m args below meth c Q D cy b aS n0 z0 tg i pc L (.inr (.inl x) :: S) h := by
  intro ls H locs cells slots P
  exact lv_lstore_n F.1 F.2.1 hd rfl (am_lr_has P.1) hq rfl fun ls' h' => k _ _ _ _ _ (P.lc (am_lr_s2 P.1 (am_ok2 P.2.1).1 h') (am_ok2 P.2.1).2)
theorem sn_lstore (F : am_fx p l e R s m args below meth c D cy b aS n0 tg i) {q : Nat} {x : Int} (hd : decode (am_c i) pc = .ok (.lstore q, 2)) (hq : q + 1 < am_mx i) (k : am_Gd p l e R s m args below meth c Q D cy b aS n0 z0 tg i (pc + 2) (am_s2 L q (.inr (.inl x))) S h) : am_Gd p l e R s m args below meth c Q D cy b aS n0 z0 tg i pc L (.inr (.inl x) :: S) h := by
  intro ls H locs cells slots P
  exact lv_lstore F.1 F.2.1 hd (am_lr_has P.1) hq rfl fun ls' h' => k _ _ _ _ _ (P.lc (am_lr_s2 P.1 (am_ok2 P.2.1).1 h') (am_ok2 P.2.1).2)
theorem sn_astore_n (F : am_fx p l e R s m args below meth c D cy b aS n0 tg i) {q : Fin 4} {x : Option Nat} (hd : decode (am_c i) pc = .ok (.astore_n q, 1)) (hq : q.val < am_mx i) (k : am_Gd p l e R s m args below meth c Q D cy b aS n0 z0 tg i (pc + 1) (am_s1 L q.val (.inr (.inr (.inl x)))) S h) : am_Gd p l e R s m args below meth c Q D cy b aS n0 z0 tg i pc L (.inr (.inr (.inl x)) :: S) h := by
  intro ls H locs cells slots P
  cases x with
  | none => exact lv_astore_nN F.1 F.2.1 hd rfl (am_lr_has P.1) hq rfl fun ls' h' => k _ _ _ _ _ (P.lc (am_lr_s1 P.1 (am_ok2 P.2.1).1 h') (am_ok2 P.2.1).2)
  | some x => exact lv_astore_n F.1 F.2.1 hd rfl (am_lr_has P.1) hq rfl fun ls' h' => k _ _ _ _ _ (P.lc (am_lr_s1 (v := .inr (.inr (.inl (some x)))) P.1 (am_ok2 P.2.1).1 h') (am_ok2 P.2.1).2)
theorem sn_astore (F : am_fx p l e R s m args below meth c D cy b aS n0 tg i) {q : Nat} {x : Option Nat} (hd : decode (am_c i) pc = .ok (.astore q, 2)) (hq : q < am_mx i) (k : am_Gd p l e R s m args below meth c Q D cy b aS n0 z0 tg i (pc + 2) (am_s1 L q (.inr (.inr (.inl x)))) S h) : am_Gd p l e R s m args below meth c Q D cy b aS n0 z0 tg i pc L (.inr (.inr (.inl x)) :: S) h := by
  intro ls H locs cells slots P
  cases x with
  | none => exact lv_astoreN F.1 F.2.1 hd (am_lr_has P.1) hq rfl fun ls' h' => k _ _ _ _ _ (P.lc (am_lr_s1 P.1 (am_ok2 P.2.1).1 h') (am_ok2 P.2.1).2)
  | some x => exact lv_astore F.1 F.2.1 hd (am_lr_has P.1) hq rfl fun ls' h' => k _ _ _ _ _ (P.lc (am_lr_s1 (v := .inr (.inr (.inl (some x)))) P.1 (am_ok2 P.2.1).1 h') (am_ok2 P.2.1).2)
theorem sn_iinc (F : am_fx p l e R s m args below meth c D cy b aS n0 tg i) {q : Nat} {n x : Int} (hd : decode (am_c i) pc = .ok (.iinc q n, 3)) (hx : am_lg L q = some (.inl x)) (k : am_Gd p l e R s m args below meth c Q D cy b aS n0 z0 tg i (pc + 3) (am_s1 L q (.inl (am_w (x + n)))) S h) : am_Gd p l e R s m args below meth c Q D cy b aS n0 z0 tg i pc L S h := by
  intro ls H locs cells slots P
  obtain ⟨z, hz⟩ := List.getElem?_of_mem (am_lv_mem P.1 hx)
  have hq : q < am_mx i := by rw [← P.1.1]; exact (Array.getElem?_eq_some_iff.mp (P.1.2.2 _ _ hx).1).1
  exact lv_iinc F.1 F.2.1 hd (am_lr_has P.1) hz (am_add x n) hq rfl fun ls' h' => k _ _ _ _ _ (P.lc (am_lr_s1 P.1 (am_w_in _) h') P.2.1)
theorem sn_iadd (F : am_fx p l e R s m args below meth c D cy b aS n0 tg i) {x y : Int} (hd : decode (am_c i) pc = .ok (.iadd, 1)) (k : am_Gd p l e R s m args below meth c Q D cy b aS n0 z0 tg i (pc + 1) L (.inl (am_w (x + y)) :: S) h) : am_Gd p l e R s m args below meth c Q D cy b aS n0 z0 tg i pc L (.inl y :: .inl x :: S) h := by
  intro ls H locs cells slots P
  refine lv_iadd F.1 F.2.1 hd ?_
  rw [am_add]
  exact k _ _ _ _ _ (P.st (am_ok1 (am_w_in _) (am_ok2 (am_ok2 P.2.1).2).2))
theorem sn_isub (F : am_fx p l e R s m args below meth c D cy b aS n0 tg i) {x y : Int} (hd : decode (am_c i) pc = .ok (.isub, 1)) (k : am_Gd p l e R s m args below meth c Q D cy b aS n0 z0 tg i (pc + 1) L (.inl (am_w (x - y)) :: S) h) : am_Gd p l e R s m args below meth c Q D cy b aS n0 z0 tg i pc L (.inl y :: .inl x :: S) h := by
  intro ls H locs cells slots P
  refine lv_isub F.1 F.2.1 hd ?_
  rw [am_sub]
  exact k _ _ _ _ _ (P.st (am_ok1 (am_w_in _) (am_ok2 (am_ok2 P.2.1).2).2))
theorem sn_imul (F : am_fx p l e R s m args below meth c D cy b aS n0 tg i) {x y : Int} (hd : decode (am_c i) pc = .ok (.imul, 1)) (k : am_Gd p l e R s m args below meth c Q D cy b aS n0 z0 tg i (pc + 1) L (.inl (am_w (x * y)) :: S) h) : am_Gd p l e R s m args below meth c Q D cy b aS n0 z0 tg i pc L (.inl y :: .inl x :: S) h := by
  intro ls H locs cells slots P
  refine lv_imul F.1 F.2.1 hd ?_
  rw [am_mul]
  exact k _ _ _ _ _ (P.st (am_ok1 (am_w_in _) (am_ok2 (am_ok2 P.2.1).2).2))
theorem sn_iand (F : am_fx p l e R s m args below meth c D cy b aS n0 tg i) {x y : Int} (hd : decode (am_c i) pc = .ok (.iand, 1)) (k : am_Gd p l e R s m args below meth c Q D cy b aS n0 z0 tg i (pc + 1) L (.inl (am_and x y) :: S) h) : am_Gd p l e R s m args below meth c Q D cy b aS n0 z0 tg i pc L (.inl y :: .inl x :: S) h := by
  intro ls H locs cells slots P
  have kk := k _ _ _ _ _ (P.st (am_ok1 (am_I_in _) (am_ok2 (am_ok2 P.2.1).2).2))
  refine lv_iand F.1 F.2.1 hd ?_
  rw [am_and_c]
  exact kk
theorem sn_ior (F : am_fx p l e R s m args below meth c D cy b aS n0 tg i) {x y : Int} (hd : decode (am_c i) pc = .ok (.ior, 1)) (k : am_Gd p l e R s m args below meth c Q D cy b aS n0 z0 tg i (pc + 1) L (.inl (am_or x y) :: S) h) : am_Gd p l e R s m args below meth c Q D cy b aS n0 z0 tg i pc L (.inl y :: .inl x :: S) h := by
  intro ls H locs cells slots P
  have kk := k _ _ _ _ _ (P.st (am_ok1 (am_I_in _) (am_ok2 (am_ok2 P.2.1).2).2))
  refine lv_ior F.1 F.2.1 hd ?_
  rw [am_or_c]
  exact kk
theorem sn_ishl (F : am_fx p l e R s m args below meth c D cy b aS n0 tg i) {x y : Int} (hd : decode (am_c i) pc = .ok (.ishl, 1)) (k : am_Gd p l e R s m args below meth c Q D cy b aS n0 z0 tg i (pc + 1) L (.inl (am_shl x y) :: S) h) : am_Gd p l e R s m args below meth c Q D cy b aS n0 z0 tg i pc L (.inl y :: .inl x :: S) h := by
  intro ls H locs cells slots P
  have kk := k _ _ _ _ _ (P.st (am_ok1 (am_I_in _) (am_ok2 (am_ok2 P.2.1).2).2))
  refine lv_ishl F.1 F.2.1 hd ?_
  rw [am_shl_c]
  exact kk
theorem sn_ishr (F : am_fx p l e R s m args below meth c D cy b aS n0 tg i) {x y : Int} (hd : decode (am_c i) pc = .ok (.ishr, 1)) (k : am_Gd p l e R s m args below meth c Q D cy b aS n0 z0 tg i (pc + 1) L (.inl (am_shr x y) :: S) h) : am_Gd p l e R s m args below meth c Q D cy b aS n0 z0 tg i pc L (.inl y :: .inl x :: S) h := by
  intro ls H locs cells slots P
  have kk := k _ _ _ _ _ (P.st (am_ok1 (am_I_in _) (am_ok2 (am_ok2 P.2.1).2).2))
  refine lv_ishr F.1 F.2.1 hd ?_
  rw [am_shr_c]
  exact kk
theorem sn_ladd (F : am_fx p l e R s m args below meth c D cy b aS n0 tg i) {x y : Int} (hd : decode (am_c i) pc = .ok (.ladd, 1)) (k : am_Gd p l e R s m args below meth c Q D cy b aS n0 z0 tg i (pc + 1) L (.inr (.inl (am_wl (x + y))) :: S) h) : am_Gd p l e R s m args below meth c Q D cy b aS n0 z0 tg i pc L (.inr (.inl y) :: .inr (.inl x) :: S) h := by
  intro ls H locs cells slots P
  refine lv_ladd F.1 F.2.1 hd ?_
  rw [am_addl]
  exact k _ _ _ _ _ (P.st (am_ok1 (am_wl_in _) (am_ok2 (am_ok2 P.2.1).2).2))
theorem sn_lsub (F : am_fx p l e R s m args below meth c D cy b aS n0 tg i) {x y : Int} (hd : decode (am_c i) pc = .ok (.lsub, 1)) (k : am_Gd p l e R s m args below meth c Q D cy b aS n0 z0 tg i (pc + 1) L (.inr (.inl (am_wl (x - y))) :: S) h) : am_Gd p l e R s m args below meth c Q D cy b aS n0 z0 tg i pc L (.inr (.inl y) :: .inr (.inl x) :: S) h := by
  intro ls H locs cells slots P
  refine lv_lsub F.1 F.2.1 hd ?_
  rw [am_subl]
  exact k _ _ _ _ _ (P.st (am_ok1 (am_wl_in _) (am_ok2 (am_ok2 P.2.1).2).2))
theorem sn_lmul (F : am_fx p l e R s m args below meth c D cy b aS n0 tg i) {x y : Int} (hd : decode (am_c i) pc = .ok (.lmul, 1)) (k : am_Gd p l e R s m args below meth c Q D cy b aS n0 z0 tg i (pc + 1) L (.inr (.inl (am_wl (x * y))) :: S) h) : am_Gd p l e R s m args below meth c Q D cy b aS n0 z0 tg i pc L (.inr (.inl y) :: .inr (.inl x) :: S) h := by
  intro ls H locs cells slots P
  refine lv_lmul F.1 F.2.1 hd ?_
  rw [am_mull]
  exact k _ _ _ _ _ (P.st (am_ok1 (am_wl_in _) (am_ok2 (am_ok2 P.2.1).2).2))
theorem sn_land (F : am_fx p l e R s m args below meth c D cy b aS n0 tg i) {x y : Int} (hd : decode (am_c i) pc = .ok (.land, 1)) (k : am_Gd p l e R s m args below meth c Q D cy b aS n0 z0 tg i (pc + 1) L (.inr (.inl (am_andl x y)) :: S) h) : am_Gd p l e R s m args below meth c Q D cy b aS n0 z0 tg i pc L (.inr (.inl y) :: .inr (.inl x) :: S) h := by
  intro ls H locs cells slots P
  have kk := k _ _ _ _ _ (P.st (am_ok1 (am_L_in _) (am_ok2 (am_ok2 P.2.1).2).2))
  refine lv_land F.1 F.2.1 hd ?_
  rw [am_andl_c]
  exact kk
theorem sn_idiv (F : am_fx p l e R s m args below meth c D cy b aS n0 tg i) {x y : Int} (hd : decode (am_c i) pc = .ok (.idiv, 1)) (hy : y ≠ 0) (k : am_Gd p l e R s m args below meth c Q D cy b aS n0 z0 tg i (pc + 1) L (.inl (am_w (x.tdiv y)) :: S) h) : am_Gd p l e R s m args below meth c Q D cy b aS n0 z0 tg i pc L (.inl y :: .inl x :: S) h := by
  intro ls H locs cells slots P
  obtain ⟨o1, o2⟩ := am_ok2 P.2.1
  obtain ⟨o2, o3⟩ := am_ok2 o2
  refine lv_idiv F.1 F.2.1 hd (fun q => hy ((am_eq0 (k := 0) o1 (by unfold am_in; omega)).mp q)) ?_
  rw [am_div o2 o1]
  exact k _ _ _ _ _ (P.st (am_ok1 (am_w_in _) o3))
theorem sn_irem (F : am_fx p l e R s m args below meth c D cy b aS n0 tg i) {x y : Int} (hd : decode (am_c i) pc = .ok (.irem, 1)) (hy : y ≠ 0) (k : am_Gd p l e R s m args below meth c Q D cy b aS n0 z0 tg i (pc + 1) L (.inl (x.tmod y) :: S) h) : am_Gd p l e R s m args below meth c Q D cy b aS n0 z0 tg i pc L (.inl y :: .inl x :: S) h := by
  intro ls H locs cells slots P
  obtain ⟨o1, o2⟩ := am_ok2 P.2.1
  obtain ⟨o2, o3⟩ := am_ok2 o2
  refine lv_irem F.1 F.2.1 hd (fun q => hy ((am_eq0 (k := 0) o1 (by unfold am_in; omega)).mp q)) ?_
  rw [am_rem o2 o1]
  exact k _ _ _ _ _ (P.st (am_ok1 (am_tmod_in o2) o3))
theorem sn_ldiv (F : am_fx p l e R s m args below meth c D cy b aS n0 tg i) {x y : Int} (hd : decode (am_c i) pc = .ok (.ldiv, 1)) (hy : y ≠ 0) (k : am_Gd p l e R s m args below meth c Q D cy b aS n0 z0 tg i (pc + 1) L (.inr (.inl (am_wl (x.tdiv y))) :: S) h) : am_Gd p l e R s m args below meth c Q D cy b aS n0 z0 tg i pc L (.inr (.inl y) :: .inr (.inl x) :: S) h := by
  intro ls H locs cells slots P
  obtain ⟨o1, o2⟩ := am_ok2 P.2.1
  obtain ⟨o2, o3⟩ := am_ok2 o2
  refine lv_ldiv F.1 F.2.1 hd (fun q => hy ((am_eql (k := 0) o1 (by unfold am_inl; omega)).mp q)) ?_
  rw [am_divl o2 o1]
  exact k _ _ _ _ _ (P.st (am_ok1 (am_wl_in _) o3))
theorem sn_lrem (F : am_fx p l e R s m args below meth c D cy b aS n0 tg i) {x y : Int} (hd : decode (am_c i) pc = .ok (.lrem, 1)) (hy : y ≠ 0) (k : am_Gd p l e R s m args below meth c Q D cy b aS n0 z0 tg i (pc + 1) L (.inr (.inl (x.tmod y)) :: S) h) : am_Gd p l e R s m args below meth c Q D cy b aS n0 z0 tg i pc L (.inr (.inl y) :: .inr (.inl x) :: S) h := by
  intro ls H locs cells slots P
  obtain ⟨o1, o2⟩ := am_ok2 P.2.1
  obtain ⟨o2, o3⟩ := am_ok2 o2
  refine lv_lrem F.1 F.2.1 hd (fun q => hy ((am_eql (k := 0) o1 (by unfold am_inl; omega)).mp q)) ?_
  rw [am_reml o2 o1]
  exact k _ _ _ _ _ (P.st (am_ok1 (am_tmod_inl o2) o3))
theorem sn_ineg (F : am_fx p l e R s m args below meth c D cy b aS n0 tg i) {x : Int} (hd : decode (am_c i) pc = .ok (.ineg, 1)) (k : am_Gd p l e R s m args below meth c Q D cy b aS n0 z0 tg i (pc + 1) L (.inl (am_w (-x)) :: S) h) : am_Gd p l e R s m args below meth c Q D cy b aS n0 z0 tg i pc L (.inl x :: S) h := by
  intro ls H locs cells slots P
  refine lv_ineg F.1 F.2.1 hd ?_
  rw [am_neg]
  exact k _ _ _ _ _ (P.st (am_ok1 (am_w_in _) (am_ok2 P.2.1).2))
theorem sn_lneg (F : am_fx p l e R s m args below meth c D cy b aS n0 tg i) {x : Int} (hd : decode (am_c i) pc = .ok (.lneg, 1)) (k : am_Gd p l e R s m args below meth c Q D cy b aS n0 z0 tg i (pc + 1) L (.inr (.inl (am_wl (-x))) :: S) h) : am_Gd p l e R s m args below meth c Q D cy b aS n0 z0 tg i pc L (.inr (.inl x) :: S) h := by
  intro ls H locs cells slots P
  refine lv_lneg F.1 F.2.1 hd ?_
  rw [am_negl]
  exact k _ _ _ _ _ (P.st (am_ok1 (am_wl_in _) (am_ok2 P.2.1).2))
theorem sn_i2l (F : am_fx p l e R s m args below meth c D cy b aS n0 tg i) {x : Int} (hd : decode (am_c i) pc = .ok (.i2l, 1)) (k : am_Gd p l e R s m args below meth c Q D cy b aS n0 z0 tg i (pc + 1) L (.inr (.inl x) :: S) h) : am_Gd p l e R s m args below meth c Q D cy b aS n0 z0 tg i pc L (.inl x :: S) h := by
  intro ls H locs cells slots P
  have o := am_ok2 P.2.1
  exact lv_i2l F.1 F.2.1 hd (am_i2l o.1) (k _ _ _ _ _ (P.st (am_ok1 (show am_inl x by have := o.1; unfold am_okv am_in at this; unfold am_inl; omega) o.2)))
theorem sn_l2i (F : am_fx p l e R s m args below meth c D cy b aS n0 tg i) {x : Int} (hd : decode (am_c i) pc = .ok (.l2i, 1)) (k : am_Gd p l e R s m args below meth c Q D cy b aS n0 z0 tg i (pc + 1) L (.inl (am_w x) :: S) h) : am_Gd p l e R s m args below meth c Q D cy b aS n0 z0 tg i pc L (.inr (.inl x) :: S) h := by
  intro ls H locs cells slots P
  have o := am_ok2 P.2.1
  exact lv_l2i F.1 F.2.1 hd (am_l2i o.1) (k _ _ _ _ _ (P.st (am_ok1 (am_w_in _) o.2)))
theorem sn_i2b (F : am_fx p l e R s m args below meth c D cy b aS n0 tg i) {x : Int} (hd : decode (am_c i) pc = .ok (.i2b, 1)) (k : am_Gd p l e R s m args below meth c Q D cy b aS n0 z0 tg i (pc + 1) L (.inl (am_wb x) :: S) h) : am_Gd p l e R s m args below meth c Q D cy b aS n0 z0 tg i pc L (.inl x :: S) h := by
  intro ls H locs cells slots P
  have o := am_ok2 P.2.1
  exact lv_i2b F.1 F.2.1 hd (am_i2b o.1) (k _ _ _ _ _ (P.st (am_ok1 (am_wb_in _) o.2)))
theorem sn_lcmp (F : am_fx p l e R s m args below meth c D cy b aS n0 tg i) {x y : Int} (hd : decode (am_c i) pc = .ok (.lcmp, 1)) (k : am_Gd p l e R s m args below meth c Q D cy b aS n0 z0 tg i (pc + 1) L (.inl (am_cmp x y) :: S) h) : am_Gd p l e R s m args below meth c Q D cy b aS n0 z0 tg i pc L (.inr (.inl y) :: .inr (.inl x) :: S) h := by
  intro ls H locs cells slots P
  obtain ⟨o1, o2⟩ := am_ok2 P.2.1
  obtain ⟨o2, o3⟩ := am_ok2 o2
  have e : lg_cmp (Int64.ofInt x) (Int64.ofInt y) = Int32.ofInt (am_cmp x y) := by
    unfold lg_cmp am_cmp
    by_cases h1 : y < x
    · rw [if_pos h1, if_pos (show Int64.ofInt x > Int64.ofInt y from (am_ltl o1 o2).mpr h1)]; rfl
    · rw [if_neg h1, if_neg (show ¬ Int64.ofInt x > Int64.ofInt y from fun q => h1 ((am_ltl o1 o2).mp q))]
      by_cases h2 : x = y
      · rw [if_pos h2, if_pos ((am_eql o2 o1).mpr h2)]; rfl
      · rw [if_neg h2, if_neg (fun q => h2 ((am_eql o2 o1).mp q))]; rfl
  refine W.lcmp F.1 F.2.1 hd ?_
  rw [e]
  exact k _ _ _ _ _ (P.st (am_ok1 (am_cmp_in _ _) o3))
theorem sn_dup (F : am_fx p l e R s m args below meth c D cy b aS n0 tg i) {v : am_V} (hd : decode (am_c i) pc = .ok (.dup, 1)) (hv : am_c1 v = true) (k : am_Gd p l e R s m args below meth c Q D cy b aS n0 z0 tg i (pc + 1) L (v :: v :: S) h) : am_Gd p l e R s m args below meth c Q D cy b aS n0 z0 tg i pc L (v :: S) h := by
  intro ls H locs cells slots P
  exact lv_dup F.1 F.2.1 hd (by rw [am_cat_cv, hv]; rfl) (k _ _ _ _ _ (P.st (am_ok1 (am_ok2 P.2.1).1 P.2.1)))
theorem sn_pop (F : am_fx p l e R s m args below meth c D cy b aS n0 tg i) {v : am_V} (hd : decode (am_c i) pc = .ok (.pop, 1)) (hv : am_c1 v = true) (k : am_Gd p l e R s m args below meth c Q D cy b aS n0 z0 tg i (pc + 1) L S h) : am_Gd p l e R s m args below meth c Q D cy b aS n0 z0 tg i pc L (v :: S) h := by
  intro ls H locs cells slots P
  exact lv_pop F.1 F.2.1 hd (by rw [am_cat_cv, hv]; rfl) (k _ _ _ _ _ (P.st (am_ok2 P.2.1).2))
theorem sn_dup2 (F : am_fx p l e R s m args below meth c D cy b aS n0 tg i) {v w : am_V} (hd : decode (am_c i) pc = .ok (.dup2, 1)) (hv : am_c1 v = true) (hw : am_c1 w = true) (k : am_Gd p l e R s m args below meth c Q D cy b aS n0 z0 tg i (pc + 1) L (v :: w :: v :: w :: S) h) : am_Gd p l e R s m args below meth c Q D cy b aS n0 z0 tg i pc L (v :: w :: S) h := by
  intro ls H locs cells slots P
  have o1 := am_ok2 P.2.1
  have o2 := am_ok2 o1.2
  exact lv_dup2_11 F.1 F.2.1 hd (by rw [am_cat_cv, hv]; rfl) (by rw [am_cat_cv, hw]; rfl) (k _ _ _ _ _ (P.st (am_ok1 o1.1 (am_ok1 o2.1 P.2.1))))
theorem sn_icmp_eq (F : am_fx p l e R s m args below meth c D cy b aS n0 tg i) {x y off : Int} {t : Nat} (hd : decode (am_c i) pc = .ok (.if_icmp .eq off, 3)) (ht : (pc : Int) + off = (t : Int)) (kt : x = y → am_Gd p l e R s m args below meth c Q D cy b aS n0 z0 tg i t L S h) (kf : ¬ (x = y) → am_Gd p l e R s m args below meth c Q D cy b aS n0 z0 tg i (pc + 3) L S h) : am_Gd p l e R s m args below meth c Q D cy b aS n0 z0 tg i pc L (.inl y :: .inl x :: S) h := by
  intro ls H locs cells slots P
  obtain ⟨o1, o2⟩ := am_ok2 P.2.1
  obtain ⟨o2, o3⟩ := am_ok2 o2
  have ee := am_eq0 o2 o1
  exact lv_icmp_eq F.1 F.2.1 hd ht (fun q => kt (ee.mp q) _ _ _ _ _ (P.st o3)) (fun q => kf (fun z => q (ee.mpr z)) _ _ _ _ _ (P.st o3))
theorem sn_icmp_ne (F : am_fx p l e R s m args below meth c D cy b aS n0 tg i) {x y off : Int} {t : Nat} (hd : decode (am_c i) pc = .ok (.if_icmp .ne off, 3)) (ht : (pc : Int) + off = (t : Int)) (kt : x ≠ y → am_Gd p l e R s m args below meth c Q D cy b aS n0 z0 tg i t L S h) (kf : ¬ (x ≠ y) → am_Gd p l e R s m args below meth c Q D cy b aS n0 z0 tg i (pc + 3) L S h) : am_Gd p l e R s m args below meth c Q D cy b aS n0 z0 tg i pc L (.inl y :: .inl x :: S) h := by
  intro ls H locs cells slots P
  obtain ⟨o1, o2⟩ := am_ok2 P.2.1
  obtain ⟨o2, o3⟩ := am_ok2 o2
  have ee := not_congr (am_eq0 o2 o1)
  exact lv_icmp_ne F.1 F.2.1 hd ht (fun q => kt (ee.mp q) _ _ _ _ _ (P.st o3)) (fun q => kf (fun z => (ee.mpr z) q) _ _ _ _ _ (P.st o3))
theorem sn_icmp_lt (F : am_fx p l e R s m args below meth c D cy b aS n0 tg i) {x y off : Int} {t : Nat} (hd : decode (am_c i) pc = .ok (.if_icmp .lt off, 3)) (ht : (pc : Int) + off = (t : Int)) (kt : x < y → am_Gd p l e R s m args below meth c Q D cy b aS n0 z0 tg i t L S h) (kf : ¬ (x < y) → am_Gd p l e R s m args below meth c Q D cy b aS n0 z0 tg i (pc + 3) L S h) : am_Gd p l e R s m args below meth c Q D cy b aS n0 z0 tg i pc L (.inl y :: .inl x :: S) h := by
  intro ls H locs cells slots P
  obtain ⟨o1, o2⟩ := am_ok2 P.2.1
  obtain ⟨o2, o3⟩ := am_ok2 o2
  have ee := am_lt0 o2 o1
  exact lv_icmp_lt F.1 F.2.1 hd ht (fun q => kt (ee.mp q) _ _ _ _ _ (P.st o3)) (fun q => kf (fun z => q (ee.mpr z)) _ _ _ _ _ (P.st o3))
theorem sn_icmp_ge (F : am_fx p l e R s m args below meth c D cy b aS n0 tg i) {x y off : Int} {t : Nat} (hd : decode (am_c i) pc = .ok (.if_icmp .ge off, 3)) (ht : (pc : Int) + off = (t : Int)) (kt : y ≤ x → am_Gd p l e R s m args below meth c Q D cy b aS n0 z0 tg i t L S h) (kf : ¬ (y ≤ x) → am_Gd p l e R s m args below meth c Q D cy b aS n0 z0 tg i (pc + 3) L S h) : am_Gd p l e R s m args below meth c Q D cy b aS n0 z0 tg i pc L (.inl y :: .inl x :: S) h := by
  intro ls H locs cells slots P
  obtain ⟨o1, o2⟩ := am_ok2 P.2.1
  obtain ⟨o2, o3⟩ := am_ok2 o2
  have ee := am_le0 o1 o2
  exact lv_icmp_ge F.1 F.2.1 hd ht (fun q => kt (ee.mp q) _ _ _ _ _ (P.st o3)) (fun q => kf (fun z => q (ee.mpr z)) _ _ _ _ _ (P.st o3))
theorem sn_icmp_gt (F : am_fx p l e R s m args below meth c D cy b aS n0 tg i) {x y off : Int} {t : Nat} (hd : decode (am_c i) pc = .ok (.if_icmp .gt off, 3)) (ht : (pc : Int) + off = (t : Int)) (kt : y < x → am_Gd p l e R s m args below meth c Q D cy b aS n0 z0 tg i t L S h) (kf : ¬ (y < x) → am_Gd p l e R s m args below meth c Q D cy b aS n0 z0 tg i (pc + 3) L S h) : am_Gd p l e R s m args below meth c Q D cy b aS n0 z0 tg i pc L (.inl y :: .inl x :: S) h := by
  intro ls H locs cells slots P
  obtain ⟨o1, o2⟩ := am_ok2 P.2.1
  obtain ⟨o2, o3⟩ := am_ok2 o2
  have ee := am_lt0 o1 o2
  exact lv_icmp_gt F.1 F.2.1 hd ht (fun q => kt (ee.mp q) _ _ _ _ _ (P.st o3)) (fun q => kf (fun z => q (ee.mpr z)) _ _ _ _ _ (P.st o3))
theorem sn_icmp_le (F : am_fx p l e R s m args below meth c D cy b aS n0 tg i) {x y off : Int} {t : Nat} (hd : decode (am_c i) pc = .ok (.if_icmp .le off, 3)) (ht : (pc : Int) + off = (t : Int)) (kt : x ≤ y → am_Gd p l e R s m args below meth c Q D cy b aS n0 z0 tg i t L S h) (kf : ¬ (x ≤ y) → am_Gd p l e R s m args below meth c Q D cy b aS n0 z0 tg i (pc + 3) L S h) : am_Gd p l e R s m args below meth c Q D cy b aS n0 z0 tg i pc L (.inl y :: .inl x :: S) h := by
  intro ls H locs cells slots P
  obtain ⟨o1, o2⟩ := am_ok2 P.2.1
  obtain ⟨o2, o3⟩ := am_ok2 o2
  have ee := am_le0 o2 o1
  exact lv_icmp_le F.1 F.2.1 hd ht (fun q => kt (ee.mp q) _ _ _ _ _ (P.st o3)) (fun q => kf (fun z => q (ee.mpr z)) _ _ _ _ _ (P.st o3))
theorem sn_if_eq (F : am_fx p l e R s m args below meth c D cy b aS n0 tg i) {x off : Int} {t : Nat} (hd : decode (am_c i) pc = .ok (.ifCond .eq off, 3)) (ht : (pc : Int) + off = (t : Int)) (kt : x = 0 → am_Gd p l e R s m args below meth c Q D cy b aS n0 z0 tg i t L S h) (kf : ¬ (x = 0) → am_Gd p l e R s m args below meth c Q D cy b aS n0 z0 tg i (pc + 3) L S h) : am_Gd p l e R s m args below meth c Q D cy b aS n0 z0 tg i pc L (.inl x :: S) h := by
  intro ls H locs cells slots P
  obtain ⟨o1, o3⟩ := am_ok2 P.2.1
  have ee := am_eq0 o1 (k := 0) (by unfold am_in; omega)
  exact lv_if_eq F.1 F.2.1 hd ht (fun q => kt (ee.mp q) _ _ _ _ _ (P.st o3)) (fun q => kf (fun z => q (ee.mpr z)) _ _ _ _ _ (P.st o3))
theorem sn_if_ne (F : am_fx p l e R s m args below meth c D cy b aS n0 tg i) {x off : Int} {t : Nat} (hd : decode (am_c i) pc = .ok (.ifCond .ne off, 3)) (ht : (pc : Int) + off = (t : Int)) (kt : x ≠ 0 → am_Gd p l e R s m args below meth c Q D cy b aS n0 z0 tg i t L S h) (kf : ¬ (x ≠ 0) → am_Gd p l e R s m args below meth c Q D cy b aS n0 z0 tg i (pc + 3) L S h) : am_Gd p l e R s m args below meth c Q D cy b aS n0 z0 tg i pc L (.inl x :: S) h := by
  intro ls H locs cells slots P
  obtain ⟨o1, o3⟩ := am_ok2 P.2.1
  have ee := not_congr (am_eq0 o1 (k := 0) (by unfold am_in; omega))
  exact lv_if_ne F.1 F.2.1 hd ht (fun q => kt (ee.mp q) _ _ _ _ _ (P.st o3)) (fun q => kf (fun z => (ee.mpr z) q) _ _ _ _ _ (P.st o3))
theorem sn_if_lt (F : am_fx p l e R s m args below meth c D cy b aS n0 tg i) {x off : Int} {t : Nat} (hd : decode (am_c i) pc = .ok (.ifCond .lt off, 3)) (ht : (pc : Int) + off = (t : Int)) (kt : x < 0 → am_Gd p l e R s m args below meth c Q D cy b aS n0 z0 tg i t L S h) (kf : ¬ (x < 0) → am_Gd p l e R s m args below meth c Q D cy b aS n0 z0 tg i (pc + 3) L S h) : am_Gd p l e R s m args below meth c Q D cy b aS n0 z0 tg i pc L (.inl x :: S) h := by
  intro ls H locs cells slots P
  obtain ⟨o1, o3⟩ := am_ok2 P.2.1
  have ee := am_lt0 o1 (k := 0) (by unfold am_in; omega)
  exact lv_if_lt F.1 F.2.1 hd ht (fun q => kt (ee.mp q) _ _ _ _ _ (P.st o3)) (fun q => kf (fun z => q (ee.mpr z)) _ _ _ _ _ (P.st o3))
theorem sn_if_ge (F : am_fx p l e R s m args below meth c D cy b aS n0 tg i) {x off : Int} {t : Nat} (hd : decode (am_c i) pc = .ok (.ifCond .ge off, 3)) (ht : (pc : Int) + off = (t : Int)) (kt : 0 ≤ x → am_Gd p l e R s m args below meth c Q D cy b aS n0 z0 tg i t L S h) (kf : ¬ (0 ≤ x) → am_Gd p l e R s m args below meth c Q D cy b aS n0 z0 tg i (pc + 3) L S h) : am_Gd p l e R s m args below meth c Q D cy b aS n0 z0 tg i pc L (.inl x :: S) h := by
  intro ls H locs cells slots P
  obtain ⟨o1, o3⟩ := am_ok2 P.2.1
  have ee := am_le0 (x := 0) (by unfold am_in; omega) o1
  exact lv_if_ge F.1 F.2.1 hd ht (fun q => kt (ee.mp q) _ _ _ _ _ (P.st o3)) (fun q => kf (fun z => q (ee.mpr z)) _ _ _ _ _ (P.st o3))
theorem sn_if_gt (F : am_fx p l e R s m args below meth c D cy b aS n0 tg i) {x off : Int} {t : Nat} (hd : decode (am_c i) pc = .ok (.ifCond .gt off, 3)) (ht : (pc : Int) + off = (t : Int)) (kt : 0 < x → am_Gd p l e R s m args below meth c Q D cy b aS n0 z0 tg i t L S h) (kf : ¬ (0 < x) → am_Gd p l e R s m args below meth c Q D cy b aS n0 z0 tg i (pc + 3) L S h) : am_Gd p l e R s m args below meth c Q D cy b aS n0 z0 tg i pc L (.inl x :: S) h := by
  intro ls H locs cells slots P
  obtain ⟨o1, o3⟩ := am_ok2 P.2.1
  have ee := am_lt0 (x := 0) (by unfold am_in; omega) o1
  exact lv_if_gt F.1 F.2.1 hd ht (fun q => kt (ee.mp q) _ _ _ _ _ (P.st o3)) (fun q => kf (fun z => q (ee.mpr z)) _ _ _ _ _ (P.st o3))
theorem sn_if_le (F : am_fx p l e R s m args below meth c D cy b aS n0 tg i) {x off : Int} {t : Nat} (hd : decode (am_c i) pc = .ok (.ifCond .le off, 3)) (ht : (pc : Int) + off = (t : Int)) (kt : x ≤ 0 → am_Gd p l e R s m args below meth c Q D cy b aS n0 z0 tg i t L S h) (kf : ¬ (x ≤ 0) → am_Gd p l e R s m args below meth c Q D cy b aS n0 z0 tg i (pc + 3) L S h) : am_Gd p l e R s m args below meth c Q D cy b aS n0 z0 tg i pc L (.inl x :: S) h := by
  intro ls H locs cells slots P
  obtain ⟨o1, o3⟩ := am_ok2 P.2.1
  have ee := am_le0 o1 (k := 0) (by unfold am_in; omega)
  exact lv_if_le F.1 F.2.1 hd ht (fun q => kt (ee.mp q) _ _ _ _ _ (P.st o3)) (fun q => kf (fun z => q (ee.mpr z)) _ _ _ _ _ (P.st o3))
theorem sn_goto (F : am_fx p l e R s m args below meth c D cy b aS n0 tg i) {off : Int} {t : Nat} (hd : decode (am_c i) pc = .ok (.goto off, 3)) (ht : (pc : Int) + off = (t : Int)) (k : am_Gd p l e R s m args below meth c Q D cy b aS n0 z0 tg i t L S h) : am_Gd p l e R s m args below meth c Q D cy b aS n0 z0 tg i pc L S h := by
  intro ls H locs cells slots P
  exact lv_goto F.1 F.2.1 hd ht (k _ _ _ _ _ P)
end
