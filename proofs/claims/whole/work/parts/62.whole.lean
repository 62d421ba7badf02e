/-! 62: the whole picture; pairs of calls -/
def cz_wd : List Int := [378998784, 270106624, 139628544, 149946368, 559500448, 773035008, 642945024, 404455424, 50383488, 273723392, 424782848, 522190848, 48365568, 486146048, 527892480, 524555840, 236453888, 646438496, 273724000, 408622464, 136085504]
def cz_ch : List Int := [107, 105, 110, 100, 32, 104, 97, 115, 32, 100, 101, 101, 100, 32, 100, 111, 32, 112, 117, 114, 115, 101, 32, 119, 97, 103, 101, 32, 115, 101, 101, 100, 32, 108, 97, 119, 32, 97, 112, 97, 114, 116, 32, 104, 101, 97, 108, 32, 108, 117, 99, 107, 32, 97, 110, 100, 32, 111, 114, 32, 110, 111, 116, 32, 111, 119, 110, 32, 111, 116, 104, 101, 114, 32, 103, 97, 112, 32, 115, 104, 111, 119, 115, 32, 104, 101, 97, 108, 115, 32, 108, 101, 118, 101, 108, 32, 100, 97, 121, 32]
def GX (I : (Nat → Int → Int)) : Prop := (∀ j : Nat, j < 21 → I 49 j = cz_wd.getD j 0) ∧ (∀ j : Nat, j < 100 → I 101 j = cz_ch.getD j 0)
/-! plans, told of numbers -/
def px_B (V : (Nat → Int → Int)) : Nat := (V 0 1).toNat + 1
def px_dp (V : (Nat → Int → Int)) (lw : (Int → (Int → Int) → Int)) (t : Int) (e : Nat) (σ : (Nat → Int → Int)) : (Nat → Int → Int) := px_day V lw (FT 1) (if 1 ≤ e ∧ V 8 ((e : Int) - 1) ≤ σ 2 t then px_add V (am_up σ 2 t (σ 2 t - V 8 ((e : Int) - 1))) t ((e : Int) - 1) else σ)
def px_ps (V : (Nat → Int → Int)) (lw : (Int → (Int → Int) → Int)) (t : Int) : Nat → Nat → (Nat → Int → Int) → (Nat → Int → Int)
  | 0, _, σ => σ
  | n + 1, c, σ => px_ps V lw t n (c % px_B V ^ n) (px_dp V lw t (c / px_B V ^ n) σ)
def px_pd (V : (Nat → Int → Int)) (lw : (Int → (Int → Int) → Int)) (t : Int) (n : Nat) (σ : (Nat → Int → Int)) (c : Nat) : Int := px_dist V lw (FT 1) (px_ps V lw t n c σ) (V 0 0).toNat
/-- the first code of the least, and the least -/
def px_pm (f : Nat → Int) : Nat → Nat × Int
  | 0 => (0, f 0)
  | m + 1 => if f (m + 1) < (px_pm f m).2 then (m + 1, f (m + 1)) else px_pm f m
def px_dg (V : (Nat → Int → Int)) (n c j : Nat) : Int := ((c / px_B V ^ (n - 1 - j) % px_B V : Nat) : Int) - 1
def GPl (V : (Nat → Int → Int)) (lw : (Int → (Int → Int) → Int)) (σ I : (Nat → Int → Int)) : Prop := (I 64 0 = 0 ∨ I 64 0 = 1) ∧ (I 64 0 = 1 → (I 64 5 = 0 ∨ I 64 5 = 1) ∧ ∃ n : Nat, (1 ≤ n ∧ n ≤ 4) ∧ I 64 6 = n ∧ I 64 1 = (px_pm (px_pd V lw (I 64 5) n σ) (px_B V ^ n - 1)).2 ∧ ∀ j : Nat, j < n → I 65 j = px_dg V n (px_pm (px_pd V lw (I 64 5) n σ) (px_B V ^ n - 1)).1 j)
theorem GPl.fr {V : (Nat → Int → Int)} {lw : (Int → (Int → Int) → Int)} {σ I I' : (Nat → Int → Int)} (h : GPl V lw σ I) (h1 : I' 64 = I 64) (h2 : I' 65 = I 65) : GPl V lw σ I' := by
  unfold GPl at h ⊢; rw [h1, h2]; exact h
theorem GPl.no {V : (Nat → Int → Int)} {lw : (Int → (Int → Int) → Int)} {σ I : (Nat → Int → Int)} (h : I 64 0 = 0) : GPl V lw σ I := ⟨Or.inl h, fun y => by omega⟩
def wPr (w : (Nat × Nat × Nat × Nat)) : Prop := (w.1 = 2 ∧ w.2.1 = 23) ∨ (w.1 = 23 ∧ w.2.1 = 2)
/-- all that is so between two calls -/
def GR0 (V : (Nat → Int → Int)) (lw : (Int → (Int → Int) → Int)) (σ : (Nat → Int → Int)) (n f g : Int) (w : (Nat × Nat × Nat × Nat)) (I L : (Nat → Int → Int)) : Prop := GC V lw σ w I L ∧ DN V σ ∧ wPr w ∧ GT n I ∧ GF f g I ∧ GIm V I L ∧ GLe V σ I ∧ GTd V I ∧ GPl V lw σ I ∧ GX I
def GG (w : (Nat × Nat × Nat × Nat)) (I L : (Nat → Int → Int)) : Prop := ∃ V lw σ n f g, GR0 V lw σ n f g w I L
theorem GR0.q {V : (Nat → Int → Int)} {lw : (Int → (Int → Int) → Int)} {σ : (Nat → Int → Int)} {n f g : Int} {w w' : (Nat × Nat × Nat × Nat)} {I L I' L' : (Nat → Int → Int)} (h : GR0 V lw σ n f g w I L) (q : QR w I L w' I' L') : GR0 V lw σ n f g w' I' L' := by
  obtain ⟨a1, a2, a3, a4, a5, a6, a7, a8, a9, a10⟩ := h
  have q0 := q
  obtain ⟨⟨q1, q2, q3⟩, ⟨f1, f2, f3⟩, l1, l2, l3⟩ := q
  refine ⟨a1.q q0, a2, ?_, ?_, ?_, ?_, ?_, ?_, ?_, ?_⟩
  · unfold wPr at a3 ⊢; rw [q1, q2]; exact a3
  · exact a4.fr (by rw [f1 0 (by decide) (by decide)]) (f2 1 (by decide) (by decide) (by decide)) (f1 1 (by decide) (by decide)) (f1 100 (by decide) (by decide))
  · unfold GF at a5 ⊢; rw [f1 0 (by decide) (by decide), f2 4 (by decide) (by decide) (by decide), f2 5 (by decide) (by decide) (by decide)]; exact a5
  · exact a6.fr (by rw [f1 0 (by decide) (by decide)]) (f2 76 (by decide) (by decide) (by decide)) (fun a x y => f1 a (by omega) (by omega)) (f1 137 (by decide) (by decide)) (f1 138 (by decide) (by decide)) l3
  · exact a7.fr (by rw [f1 90 (by decide) (by decide)]) (f2 74 (by decide) (by decide) (by decide)) (f1 91 (by decide) (by decide)) (f1 136 (by decide) (by decide))
  · obtain ⟨T, m, kb, b1, b2, b3⟩ := a8
    exact ⟨T, m, kb, b1.fr (fun a x y => f1 a (by omega) (by omega)), b2.fr (f2 70 (by decide) (by decide) (by decide)) (f2 71 (by decide) (by decide) (by decide)) (f1 134 (by decide) (by decide)), b3⟩
  · exact a9.fr (f1 64 (by decide) (by decide)) (f1 65 (by decide) (by decide))
  · unfold GX at a10 ⊢; rw [f1 49 (by decide) (by decide), f1 101 (by decide) (by decide)]; exact a10
/-- a pair of calls: alike answers, and all is so behind them -/
def PM (j1 j2 : Nat) (as : List am_V) : Prop := ∀ (d : Nat) (w : (Nat × Nat × Nat × Nat)) (I L : (Nat → Int → Int)), GG w I L → am_Sp (d + 20) j1 (vR (some 0) :: as) (mkH w I L) (fun r h1 => am_Sp (d + 20) j2 (vR (some 99) :: as) h1 (fun r' h2 => r' = r ∧ r ≠ none ∧ ∃ w2 I2 L2, h2 = mkH w2 I2 L2 ∧ GG w2 I2 L2))
theorem P2.pm {j1 j2 : Nat} {as : List am_V} (h : ∀ V lw σ n f g w I L, GR0 V lw σ n f g w I L → ∃ Γ : (Nat × Nat × Nat × Nat) → (Nat → Int → Int) → (Nat → Int → Int) → Prop, (∀ w' I' L', GR0 V lw σ n f g w' I' L' → Γ w' I' L') ∧ P2 Γ j1 j2 as) : PM j1 j2 as := by
  intro d w I L ⟨V, lw, σ, n, f, g, G⟩
  obtain ⟨Γ, hΓ, v, hc, hm⟩ := h V lw σ n f g w I L G
  refine hc w I L (hΓ _ _ _ G) d _ (fun w' I' L' r => ?_)
  refine hm w' I' L' (hΓ _ _ _ (G.q r)) d _ (fun I2 L2 r2 => ⟨rfl, by simp, w', I2, L2, rfl, V, lw, σ, n, f, g, (G.q r).q r2⟩)
theorem P2.gc {j1 j2 : Nat} {as : List am_V} (h : ∀ V lw σ, WV V → DN V σ → P2 (GC V lw σ) j1 j2 as) : PM j1 j2 as := by
  refine P2.pm (fun V lw σ n f g w I L G => ⟨GC V lw σ, fun _ _ _ G' => G'.1, h V lw σ G.1.1.2.2.2.1 G.2.1⟩)
theorem p_kind {a b : Int} : PM 97 223 [vI a, vI b] := P2.gc (fun _ _ _ _ _ => q_kind)
theorem p_deed {a b : Int} : PM 98 224 [vI a, vI b] := P2.gc (fun _ _ _ _ _ => q_deed)
theorem p_done {a b : Int} : PM 99 225 [vI a, vI b] := P2.gc (fun _ _ _ _ _ => q_done)
theorem p_twin {a b : Int} : PM 100 226 [vI a, vI b] := P2.gc (fun _ _ _ _ _ => q_twin)
theorem p_apart : PM 101 227 [] := P2.gc (fun _ _ _ _ _ => q_apart)
theorem p_law {a b c : Int} : PM 102 228 [vI a, vI b, vI c] := P2.gc (fun _ _ _ _ _ => q_law)
theorem p_ahead {a b c : Int} : PM 109 233 [vI a, vI b, vI c] := P2.gc (fun _ _ _ _ _ => q_ahead)
theorem p_nextLevel : PM 110 235 [] := P2.gc (fun _ _ _ _ _ => q_nextLevel)
theorem p_nextOut : PM 111 236 [] := P2.gc (fun _ _ _ _ _ => q_nextOut)
theorem p_sign : PM 118 244 [] := P2.gc (fun _ _ _ _ _ => q_sign)
theorem p_tells : PM 119 245 [] := P2.gc (fun _ _ _ _ _ => q_tells)
theorem p_wanted {a : Int} : PM 120 246 [vI a] := P2.gc (fun _ _ _ _ _ => q_wanted)
theorem p_best {a : Int} : PM 121 247 [vI a] := P2.gc (fun _ _ _ _ _ => q_best)
theorem p_rests : PM 122 250 [] := P2.gc (fun _ _ _ _ _ => q_rests)
theorem p_rest {a : Int} : PM 123 251 [vI a] := P2.gc (fun _ _ _ _ _ => q_rest)
theorem p_sure {a b c : Int} : PM 126 253 [vI a, vI b, vI c] := P2.gc (fun _ _ _ _ _ => q_sure)
theorem p_happier : PM 128 254 [] := P2.gc (fun _ _ _ _ _ => q_happier)
theorem p_mean {a b c e : Int} : PM 129 255 [vI a, vI b, vI c, vI e] := P2.gc (fun _ _ _ _ hD => q_mean hD)
theorem p_nearest {a b : Int} : PM 131 237 [vI a, vI b] := P2.gc (fun _ _ _ _ _ => q_nearest)
theorem p_payers {a : Int} : PM 132 256 [vI a] := P2.gc (fun _ _ _ _ _ => q_payers)
theorem p_healed {a : Int} : PM 133 257 [vI a] := P2.gc (fun _ _ _ _ _ => q_healed)
theorem p_due {a : Int} : PM 134 258 [vI a] := P2.gc (fun _ _ _ _ hD => q_due hD)
theorem p_busiest : PM 135 259 [] := P2.gc (fun _ _ _ hV hD => q_busiest hD hV)
theorem p_chance {a b c : Int} (h : a ≤ 2147483647) : PM 144 271 [vI a, vI b, vI c] := P2.gc (fun _ _ _ _ _ => q_chance h)
theorem p_tried {a b c : Int} : PM 145 272 [vI a, vI b, vI c] := P2.gc (fun _ _ _ _ _ => q_tried)
theorem p_named {a b : Int} : PM 91 180 [vI a, vI b] := P2.gc (fun _ _ _ _ _ => q_named)
theorem p_fault {a : Int} : PM 90 179 [vI a] := P2.pm (fun V lw σ n f g w I L G => ⟨_, fun w' I' L' G' => G'.2.2.2.2.1, q_fault⟩)
