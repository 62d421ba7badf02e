/-! b0: the constructors, by computing -/
def cz_h0 : am_H := ((true, [(10, 16)]), (fun _ _ => 0), (fun _ _ => 0), (fun _ _ => none))
def cz_on (r : Option (Option am_V × am_H)) (f : am_H → Bool) : Bool := match r with
  | some (none, h) => f h
  | _ => false
theorem cz_on_s {r : Option (Option am_V × am_H)} {f : am_H → Bool} (h : cz_on r f = true) : ∃ h1, r = some (none, h1) ∧ f h1 = true := by
  unfold cz_on at h
  split at h
  · exact ⟨_, rfl, h⟩
  · cases h
def cz_w0 : (Nat × Nat × Nat × Nat) := (2, 23, 23, 2)
/-- cell a: j of its first n are v -/
def cz_cv (h : am_H) (a : Nat) (v : Int) : Nat → Bool
  | 0 => true
  | j + 1 => decide (h.2.1 a j = v) && cz_cv h a v j
def cz_cl2 (h : am_H) (a : Nat) : List Int → Nat → Bool
  | [], _ => true
  | v :: t, j => decide (h.2.1 a j = v) && cz_cl2 h a t (j + 1)
def cz_cr (h : am_H) (a : Nat) : List Nat → Nat → Bool
  | [], _ => true
  | ty :: t, k => (bif Nat.beq ty 3 then decide (h.2.2.2 a k = cz_R cz_w0 a k) else true) && cz_cr h a t (k + 1)
def cz_cR (h : am_H) : List (Nat × Nat) → Nat → Bool
  | [], _ => true
  | q :: t, a => (bif Nat.ble 12 q.1 then (bif Nat.beq q.1 16 then cz_cr h a (List.replicate q.2 3) 0 else true) else cz_cr h a (am_lay q.1) 0) && cz_cR h t (a + 1)
/-- single cells, rows -/
def cz_sg : List (Nat × Nat × Int) := [(0, 1, 0), (0, 2, 0), (0, 3, -1), (0, 10, 0), (2, 0, 0), (2, 5, 0), (2, 11, 0), (2, 17, 0), (17, 2, 0), (51, 3, 0), (51, 4, 0), (51, 8, 0), (51, 5, 0), (51, 6, 0), (51, 7, 0), (64, 0, 0), (90, 0, 0), (92, 0, 0), (92, 1, -1), (99, 1, 0), (99, 4, 0), (99, 5, -1), (99, 12, 0), (99, 13, 0), (99, 14, 0), (99, 15, 0), (102, 0, 0), (130, 0, 0), (131, 0, 0), (99, 70, 0), (99, 71, -1), (99, 74, 0), (99, 76, 0)]
def cz_rw : List (Nat × Nat × Int) := [(6, 12, 0), (15, 2, 0), (16, 2, 0), (19, 3, -1), (52, 12, 0), (53, 2, 0), (54, 12, 0), (106, 12, 0), (116, 4, 0), (117, 3, 0), (127, 12, 0), (128, 2, 0), (129, 12, 0)]
def cz_ck (h : am_H) : Bool := cz_sg.all (fun q => decide (h.2.1 q.1 q.2.1 = q.2.2)) && cz_rw.all (fun q => cz_cv h q.1 q.2.2 q.2.1) && (cz_cl2 h 49 cz_wd 0 && cz_cl2 h 101 cz_ch 0) && decide (h.2.2.1 99 59 = 0) && cz_cR h cz_sh 0
theorem cz_t1 : cz_on (am_run 20000 20 86 0 (am_en 86 [vR (some 0)]) [] cz_h0) (fun h1 => decide (h1.1 = (true, cz_sh.take 99)) && cz_on (am_run 20000 20 150 0 (am_en 150 [vR (some 99)]) [] (am_nw h1 11 80)) (fun h3 => decide (h3.1 = (true, cz_sh)) && cz_ck h3)) = true := by decide +kernel
