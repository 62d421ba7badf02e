/-! b8: the law: its loop -/
def lw_tgs : List Nat := [248, 321, 346, 371, 408, 476, 513, 550, 587, 624, 637, 687, 752, 789, 814, 839, 888, 901, 914, 939, 964, 1013, 1026, 1039, 1064, 1089, 1102, 1127, 1177, 1190, 1227, 1288, 1325, 1350, 1375, 1400, 1413, 1478, 1555, 1580, 1605, 1618, 1643, 1692, 1741, 1754, 1767, 1780]
def lw_tg (j : Nat) : Nat := lw_tgs.getD j 1805
theorem lw_tg_ok : ∀ j : Fin 48, (#[208, 281, 306, 331, 368, 436, 473, 510, 547, 584, 597, 647, 712, 749, 774, 799, 848, 861, 874, 899, 924, 973, 986, 999, 1024, 1049, 1062, 1087, 1137, 1150, 1187, 1248, 1285, 1310, 1335, 1360, 1373, 1438, 1515, 1540, 1565, 1578, 1603, 1652, 1701, 1714, 1727, 1740] : Array Int)[j.val]? = some ((lw_tg j.val : Int) - 40) := by decide +kernel
theorem lx_nI {k : Nat} (h : k < 2147483648) : nI k = Int32.ofInt k := by
  apply Int32.toInt_inj.mp
  rw [nI_toInt (by omega), am_toI (by unfold am_in; omega)]
theorem am_and63 (x : Int) : am_and x 63 = x % 64 := by
  unfold am_and
  have h : ((Int32.ofInt x &&& Int32.ofInt 63).toBitVec) = (BitVec.ofInt 32 x) &&& 63#32 := rfl
  rw [← Int32.toInt_toBitVec, h]
  have h2 : (BitVec.ofInt 32 x &&& 63#32).toNat = (x % 64).toNat := by
    rw [BitVec.toNat_and, BitVec.toNat_ofInt, show (63#32).toNat = 2 ^ 6 - 1 from rfl, Nat.and_two_pow_sub_one_eq_mod]
    omega
  rw [BitVec.toInt_eq_toNat_of_lt (by rw [h2]; omega), h2]
  omega
theorem lx_and (x : Int32) : ∃ j : Nat, j < 64 ∧ x &&& 63 = nI j := by
  refine ⟨(x.toInt % 64).toNat, by omega, ?_⟩
  have e := am_and63 x.toInt
  unfold am_and at e
  rw [am_ofI] at e
  apply Int32.toInt_inj.mp
  rw [nI_toInt (by omega), show (63 : Int32) = Int32.ofInt 63 from rfl, e]
  omega
section
variable {p : Program} {l : Launch} {e : Env} {s : State} {m : MethodId} {below : List Frame} {meth : Method} {c : Code} {Q : State → Prop} {D : va_G} {cy : Nat → ClassId} {aS b0 L : Nat} {xs : Nat → Int32} {k : Nat} {h : am_H}
theorem lg_tab (F : lw_fx p s m meth c D cy b0 L xs) (hk : k + 5 < L) (kk : ∀ j, j < 64 → lw_G p l e s m below meth c Q D cy aS b0 k (lw_tg j) [] h) : lw_G p l e s m below meth c Q D cy aS b0 k 33 [] h := by
  intro ls H locs cells slots P
  obtain ⟨hx, hb, hml, hown, hts, hK, hlk, hrt, hnst, hAO, hX, hbl, hL⟩ := id F
  refine lv_aload_n hx hb dl_33 rfl (lv_at P.1 0 rfl) ?_
  refine lv_iload hx hb dl_34 (lv_at P.1 4 rfl) ?_
  refine va_sld (A := fun q => s.heap.size ≤ q) hx hb hX hbl (Nat.not_le.mpr hbl) P.2.2.2.2.1 (vp_in_nI (by omega) (by omega)) dl_36 ?_
  refine lv_bipush (v := 63) hx hb dl_37 (by decide) ?_
  refine lv_iand hx hb dl_39 ?_
  rw [nI_clamp (by omega)]
  obtain ⟨j, hj, ej⟩ := lx_and (xs k)
  rw [ej]
  have z := kk j hj ls H locs cells slots P
  have tj : (nI j).toInt = (j : Int) := nI_toInt (by omega)
  by_cases c48 : j < 48
  · refine lv_tableIn (off := (lw_tg j : Int) - 40) (tgt := lw_tg j) hx hb dl_40 (by rw [tj]; omega) (by rw [tj]; omega) ?_ (by show (40 : Int) + _ = _; omega) z
    rw [tj, show ((j : Int) - 0).toNat = j by omega]
    exact lw_tg_ok ⟨j, c48⟩
  · have e9 : lw_tg j = 1805 := by
      unfold lw_tg
      rw [List.getD_eq_getElem?_getD, List.getElem?_eq_none (by show 48 ≤ j; omega)]; rfl
    rw [e9] at z
    exact lv_tableOut (tgt := 1805) hx hb dl_40 (Or.inr (by rw [tj]; omega)) (by decide) z
end
