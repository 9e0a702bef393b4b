/-! ===== the board: reads, counts, places ===== -/
def pAt (f : Nat → Int32) (s : Int32) : Int32 := if inI s 0 47 then f s.toNatClampNeg else -6
theorem inI_ix {x : Int32} {n : Nat} (hn : n < 2147483648) (h : inI x 0 (nI n) = true) : ∃ j : Nat, j ≤ n ∧ x = nI j := by
  have h1 := of_decide_eq_true h
  obtain ⟨j, hj, rfl⟩ := nI_of (x := x) (Int32.not_lt.mpr h1.1)
  exact ⟨j, (nI_leI hj hn).mp h1.2, rfl⟩
theorem inI_nI {j n : Nat} (hj : j ≤ n) (hn : n < 2147483648) : inI (nI j) 0 (nI n) = true := decide_eq_true ⟨nI_pos' (by omega), nI_le hj hn⟩
theorem inI_out {x : Int32} {n : Nat} (hn : n + 1 < 2147483648) (h : x < 0 ∨ nI (n + 1) ≤ x) : inI x 0 (nI n) = false := by
  refine decide_eq_false fun q => ?_
  rcases h with h | h
  · exact Int32.not_le.mpr h q.1
  · have h2 : nI (n + 1) ≤ nI n := Int32.le_trans h q.2
    have := (nI_leI hn (by omega)).mp h2
    omega
theorem pAt_nI {f : Nat → Int32} {j : Nat} (hj : j < 48) : pAt f (nI j) = f j := by
  unfold pAt
  rw [show inI (nI j) 0 47 = true from inI_nI (n := 47) (by omega) (by decide), if_pos rfl, nI_clamp (by omega)]
theorem pAt_out {f : Nat → Int32} {s : Int32} (h : s < 0 ∨ nI 48 ≤ s) : pAt f s = -6 := by
  unfold pAt
  rw [show inI s 0 47 = false from inI_out (n := 47) (by decide) h]
  rfl
def isBd (w : PW) (b : Nat) (f n : Nat → Int32) (mv jp : Int32) : Prop := w[b]? = some (oB 0 [.ref (b + 1), .ref (b + 2), .int mv, .int jp]) ∧ w[b + 1]? = some (aI 48 f) ∧ w[b + 2]? = some (aI 4 n)
def bS (b : Nat) : Nat → Prop := fun h => b ≤ h ∧ h < b + 3
def toBd (w : PW) (b : Nat) (f n : Nat → Int32) (mv jp : Int32) : PW → Prop := fun w1 => Fr w w1 (bS b) ∧ isBd w1 b f n mv jp
theorem isBd.fr {w w1 : PW} {b : Nat} {f n : Nat → Int32} {mv jp : Int32} {S : Nat → Prop} (h : isBd w b f n mv jp) (hF : Fr w w1 S) (hS : ∀ q, b ≤ q → q < b + 3 → ¬ S q) : isBd w1 b f n mv jp := ⟨hF.at (hS _ (by omega) (by omega)) h.1, hF.at (hS _ (by omega) (by omega)) h.2.1, hF.at (hS _ (by omega) (by omega)) h.2.2⟩
theorem isBd.setF {w : PW} {b : Nat} {f g n : Nat → Int32} {mv jp : Int32} (h : isBd w b f n mv jp) : toBd w b g n mv jp (w.set (b + 1) (aI 48 g)) := ⟨Fr.st ⟨by omega, by omega⟩, gs_ne (by omega) h.1, gs_eq (is_of h.2.1), gs_ne (by omega) h.2.2⟩
theorem isBd.setN {w : PW} {b : Nat} {f n g : Nat → Int32} {mv jp : Int32} (h : isBd w b f n mv jp) : toBd w b f g mv jp (w.set (b + 2) (aI 4 g)) := ⟨Fr.st ⟨by omega, by omega⟩, gs_ne (by omega) h.1, gs_ne (by omega) h.2.1, gs_eq (is_of h.2.2)⟩
theorem isBd.setO {w : PW} {b : Nat} {f n : Nat → Int32} {mv jp mv1 jp1 : Int32} (h : isBd w b f n mv jp) : toBd w b f n mv1 jp1 (w.set b (oB 0 [.ref (b + 1), .ref (b + 2), .int mv1, .int jp1])) := ⟨Fr.st ⟨by omega, by omega⟩, gs_eq (is_of h.1), gs_ne (by omega) h.2.1, gs_ne (by omega) h.2.2⟩
theorem toBd.tr {w w1 w2 : PW} {b : Nat} {f n f1 n1 : Nat → Int32} {mv jp mv1 jp1 : Int32} (h : toBd w b f n mv jp w1) (h2 : toBd w1 b f1 n1 mv1 jp1 w2) : toBd w b f1 n1 mv1 jp1 w2 := ⟨h.1.tr h2.1, h2.2⟩
def adN (n : Nat → Int32) (p more : Int32) : Nat → Int32 := if inI p 0 3 then upd n p.toNatClampNeg (n p.toNatClampNeg + more) else n
theorem adN_nI {n : Nat → Int32} {j : Nat} {m : Int32} (hj : j < 4) : adN n (nI j) m = upd n j (n j + m) := by
  unfold adN
  rw [show inI (nI j) 0 3 = true from inI_nI (n := 3) (by omega) (by decide), if_pos rfl, nI_clamp (by omega)]
theorem adN_out {n : Nat → Int32} {s m : Int32} (h : s < 0 ∨ nI 4 ≤ s) : adN n s m = n := by
  unfold adN
  rw [show inI s 0 3 = false from inI_out (n := 3) (by decide) h]
  rfl
def nOf (n : Nat → Int32) (p : Int32) : Int32 := if inI p 0 3 then n p.toNatClampNeg else 0
theorem nOf_nI {n : Nat → Int32} {j : Nat} (hj : j < 4) : nOf n (nI j) = n j := by
  unfold nOf
  rw [show inI (nI j) 0 3 = true from inI_nI (n := 3) (by omega) (by decide), if_pos rfl, nI_clamp (by omega)]
theorem nOf_out {n : Nat → Int32} {s : Int32} (h : s < 0 ∨ nI 4 ≤ s) : nOf n s = 0 := by
  unfold nOf
  rw [show inI s 0 3 = false from inI_out (n := 3) (by decide) h]
  rfl
def plF (f : Nat → Int32) (s p : Int32) : Nat → Int32 := if inI s 0 47 then upd f s.toNatClampNeg p else f
def plN (f n : Nat → Int32) (s p : Int32) : Nat → Int32 := if inI s 0 47 then adN (adN n (f s.toNatClampNeg) (-1)) p 1 else n
theorem plF_nI {f : Nat → Int32} {j : Nat} {p : Int32} (hj : j < 48) : plF f (nI j) p = upd f j p := by
  unfold plF
  rw [show inI (nI j) 0 47 = true from inI_nI (n := 47) (by omega) (by decide), if_pos rfl, nI_clamp (by omega)]
theorem plN_nI {f n : Nat → Int32} {j : Nat} {p : Int32} (hj : j < 48) : plN f n (nI j) p = adN (adN n (f j) (-1)) p 1 := by
  unfold plN
  rw [show inI (nI j) 0 47 = true from inI_nI (n := 47) (by omega) (by decide), if_pos rfl, nI_clamp (by omega)]
theorem plF_out {f : Nat → Int32} {s p : Int32} (h : s < 0 ∨ nI 48 ≤ s) : plF f s p = f := by
  unfold plF
  rw [show inI s 0 47 = false from inI_out (n := 47) (by decide) h]
  rfl
theorem plN_out {f n : Nat → Int32} {s p : Int32} (h : s < 0 ∨ nI 48 ≤ s) : plN f n s p = n := by
  unfold plN
  rw [show inI s 0 47 = false from inI_out (n := 47) (by decide) h]
  rfl
set_option maxRecDepth 100000 in
theorem tX6_squareAfter {Γ : CT} {w : PW} {s way k : Int32}  : Cl Γ yX6_squareAfter XX6_squareAfter 1 0 0 [.int s, .int way, .int k] w (rI (sqI s way k) w) := by
  refine Cl.of (ls := [some (.int s), some (.int way), some (.int k), none, none]) rfl (by decide +kernel) (fun h => by cases h) (Nat.le_of_ble_eq_true rfl) rfl ?_
  refine r_iload_n 1 dX6_squareAfter_0 rfl rfl ?_
  refine r_callS0 4 dX6_squareAfter_1 rfl (tX6_rowOf) l_X6_133 mX6_rowOf rfl (by decide) (Nat.le_of_ble_eq_true rfl) (by decide) (qI ?_)
  refine r_iload_n 5 dX6_squareAfter_4 rfl rfl ?_
  refine r_iconst (v := 2) 6 dX6_squareAfter_5 rfl (by decide) ?_
  refine r_icmp_ge 13 9 dX6_squareAfter_6 (by decide) rfl (fun q6 => ?_) (fun q6 => ?_)
  · refine r_iload_n 14 dX6_squareAfter_13 rfl rfl ?_
    refine r_ineg 15 dX6_squareAfter_14 rfl ?_
    refine r_iadd 16 dX6_squareAfter_15 rfl ?_
    refine r_istore_n (ls1 := [_, _, _, _, _]) 17 dX6_squareAfter_16 rfl (by decide) rfl rfl ?_
    refine r_iload_n 18 dX6_squareAfter_17 rfl rfl ?_
    refine r_callS0 21 dX6_squareAfter_18 rfl (tX6_columnOf) l_X6_130 mX6_columnOf rfl (by decide) (Nat.le_of_ble_eq_true rfl) (by decide) (qI ?_)
    refine r_iload_n 22 dX6_squareAfter_21 rfl rfl ?_
    refine r_iconst (v := 2) 23 dX6_squareAfter_22 rfl (by decide) ?_
    refine r_irem 24 dX6_squareAfter_23 rfl (by decide) ?_
    refine r_if_ne 31 27 dX6_squareAfter_24 (by decide) rfl (fun q24 => ?_) (fun q24 => ?_)
    · refine r_iload_n 32 dX6_squareAfter_31 rfl rfl ?_
      refine r_ineg 33 dX6_squareAfter_32 rfl ?_
      refine r_iadd 34 dX6_squareAfter_33 rfl ?_
      refine r_istore (ls1 := [_, _, _, _, _]) 36 dX6_squareAfter_34 rfl (by decide) rfl rfl ?_
      refine r_iload_n 37 dX6_squareAfter_36 rfl rfl ?_
      refine r_bipush (v := 8) 39 dX6_squareAfter_37 rfl (by decide) ?_
      refine r_callS0 42 dX6_squareAfter_39 rfl (tJ9_floorMod (by decide)) l_X6_258 mJ9_floorMod_7cf53 rfl (by decide) (Nat.le_of_ble_eq_true rfl) (by decide) (qI ?_)
      refine r_bipush (v := 6) 44 dX6_squareAfter_42 rfl (by decide) ?_
      refine r_imul 45 dX6_squareAfter_44 rfl ?_
      refine r_iload 47 dX6_squareAfter_45 rfl rfl ?_
      refine r_bipush (v := 12) 49 dX6_squareAfter_47 rfl (by decide) ?_
      refine r_callS0 52 dX6_squareAfter_49 rfl (tJ9_floorMod (by decide)) l_X6_258 mJ9_floorMod_7cf53 rfl (by decide) (Nat.le_of_ble_eq_true rfl) (by decide) (qI ?_)
      refine r_iconst (v := 2) 53 dX6_squareAfter_52 rfl (by decide) ?_
      refine r_idiv 54 dX6_squareAfter_53 rfl (by decide) ?_
      refine r_iadd 55 dX6_squareAfter_54 rfl ?_
      refine r_iret dX6_squareAfter_55 rfl (by decide) (by decide) ?_
      refine ⟨?_, rfl⟩
      first | rw [sqI, if_pos (Int32.not_le.mp q6), if_pos q24] | rw [sqI, if_pos (Int32.not_le.mp q6), if_neg q24] | rw [sqI, if_neg (Int32.not_lt.mpr q6), if_pos q24] | rw [sqI, if_neg (Int32.not_lt.mpr q6), if_neg q24]
      rfl
    · refine r_iload_n 28 dX6_squareAfter_27 rfl rfl ?_
      refine r_goto 33 dX6_squareAfter_28 (by decide) ?_
      refine r_iadd 34 dX6_squareAfter_33 rfl ?_
      refine r_istore (ls1 := [_, _, _, _, _]) 36 dX6_squareAfter_34 rfl (by decide) rfl rfl ?_
      refine r_iload_n 37 dX6_squareAfter_36 rfl rfl ?_
      refine r_bipush (v := 8) 39 dX6_squareAfter_37 rfl (by decide) ?_
      refine r_callS0 42 dX6_squareAfter_39 rfl (tJ9_floorMod (by decide)) l_X6_258 mJ9_floorMod_7cf53 rfl (by decide) (Nat.le_of_ble_eq_true rfl) (by decide) (qI ?_)
      refine r_bipush (v := 6) 44 dX6_squareAfter_42 rfl (by decide) ?_
      refine r_imul 45 dX6_squareAfter_44 rfl ?_
      refine r_iload 47 dX6_squareAfter_45 rfl rfl ?_
      refine r_bipush (v := 12) 49 dX6_squareAfter_47 rfl (by decide) ?_
      refine r_callS0 52 dX6_squareAfter_49 rfl (tJ9_floorMod (by decide)) l_X6_258 mJ9_floorMod_7cf53 rfl (by decide) (Nat.le_of_ble_eq_true rfl) (by decide) (qI ?_)
      refine r_iconst (v := 2) 53 dX6_squareAfter_52 rfl (by decide) ?_
      refine r_idiv 54 dX6_squareAfter_53 rfl (by decide) ?_
      refine r_iadd 55 dX6_squareAfter_54 rfl ?_
      refine r_iret dX6_squareAfter_55 rfl (by decide) (by decide) ?_
      refine ⟨?_, rfl⟩
      first | rw [sqI, if_pos (Int32.not_le.mp q6), if_pos q24] | rw [sqI, if_pos (Int32.not_le.mp q6), if_neg q24] | rw [sqI, if_neg (Int32.not_lt.mpr q6), if_pos q24] | rw [sqI, if_neg (Int32.not_lt.mpr q6), if_neg q24]
      rfl
  · refine r_iload_n 10 dX6_squareAfter_9 rfl rfl ?_
    refine r_goto 15 dX6_squareAfter_10 (by decide) ?_
    refine r_iadd 16 dX6_squareAfter_15 rfl ?_
    refine r_istore_n (ls1 := [_, _, _, _, _]) 17 dX6_squareAfter_16 rfl (by decide) rfl rfl ?_
    refine r_iload_n 18 dX6_squareAfter_17 rfl rfl ?_
    refine r_callS0 21 dX6_squareAfter_18 rfl (tX6_columnOf) l_X6_130 mX6_columnOf rfl (by decide) (Nat.le_of_ble_eq_true rfl) (by decide) (qI ?_)
    refine r_iload_n 22 dX6_squareAfter_21 rfl rfl ?_
    refine r_iconst (v := 2) 23 dX6_squareAfter_22 rfl (by decide) ?_
    refine r_irem 24 dX6_squareAfter_23 rfl (by decide) ?_
    refine r_if_ne 31 27 dX6_squareAfter_24 (by decide) rfl (fun q24 => ?_) (fun q24 => ?_)
    · refine r_iload_n 32 dX6_squareAfter_31 rfl rfl ?_
      refine r_ineg 33 dX6_squareAfter_32 rfl ?_
      refine r_iadd 34 dX6_squareAfter_33 rfl ?_
      refine r_istore (ls1 := [_, _, _, _, _]) 36 dX6_squareAfter_34 rfl (by decide) rfl rfl ?_
      refine r_iload_n 37 dX6_squareAfter_36 rfl rfl ?_
      refine r_bipush (v := 8) 39 dX6_squareAfter_37 rfl (by decide) ?_
      refine r_callS0 42 dX6_squareAfter_39 rfl (tJ9_floorMod (by decide)) l_X6_258 mJ9_floorMod_7cf53 rfl (by decide) (Nat.le_of_ble_eq_true rfl) (by decide) (qI ?_)
      refine r_bipush (v := 6) 44 dX6_squareAfter_42 rfl (by decide) ?_
      refine r_imul 45 dX6_squareAfter_44 rfl ?_
      refine r_iload 47 dX6_squareAfter_45 rfl rfl ?_
      refine r_bipush (v := 12) 49 dX6_squareAfter_47 rfl (by decide) ?_
      refine r_callS0 52 dX6_squareAfter_49 rfl (tJ9_floorMod (by decide)) l_X6_258 mJ9_floorMod_7cf53 rfl (by decide) (Nat.le_of_ble_eq_true rfl) (by decide) (qI ?_)
      refine r_iconst (v := 2) 53 dX6_squareAfter_52 rfl (by decide) ?_
      refine r_idiv 54 dX6_squareAfter_53 rfl (by decide) ?_
      refine r_iadd 55 dX6_squareAfter_54 rfl ?_
      refine r_iret dX6_squareAfter_55 rfl (by decide) (by decide) ?_
      refine ⟨?_, rfl⟩
      first | rw [sqI, if_pos (Int32.not_le.mp q6), if_pos q24] | rw [sqI, if_pos (Int32.not_le.mp q6), if_neg q24] | rw [sqI, if_neg (Int32.not_lt.mpr q6), if_pos q24] | rw [sqI, if_neg (Int32.not_lt.mpr q6), if_neg q24]
      rfl
    · refine r_iload_n 28 dX6_squareAfter_27 rfl rfl ?_
      refine r_goto 33 dX6_squareAfter_28 (by decide) ?_
      refine r_iadd 34 dX6_squareAfter_33 rfl ?_
      refine r_istore (ls1 := [_, _, _, _, _]) 36 dX6_squareAfter_34 rfl (by decide) rfl rfl ?_
      refine r_iload_n 37 dX6_squareAfter_36 rfl rfl ?_
      refine r_bipush (v := 8) 39 dX6_squareAfter_37 rfl (by decide) ?_
      refine r_callS0 42 dX6_squareAfter_39 rfl (tJ9_floorMod (by decide)) l_X6_258 mJ9_floorMod_7cf53 rfl (by decide) (Nat.le_of_ble_eq_true rfl) (by decide) (qI ?_)
      refine r_bipush (v := 6) 44 dX6_squareAfter_42 rfl (by decide) ?_
      refine r_imul 45 dX6_squareAfter_44 rfl ?_
      refine r_iload 47 dX6_squareAfter_45 rfl rfl ?_
      refine r_bipush (v := 12) 49 dX6_squareAfter_47 rfl (by decide) ?_
      refine r_callS0 52 dX6_squareAfter_49 rfl (tJ9_floorMod (by decide)) l_X6_258 mJ9_floorMod_7cf53 rfl (by decide) (Nat.le_of_ble_eq_true rfl) (by decide) (qI ?_)
      refine r_iconst (v := 2) 53 dX6_squareAfter_52 rfl (by decide) ?_
      refine r_idiv 54 dX6_squareAfter_53 rfl (by decide) ?_
      refine r_iadd 55 dX6_squareAfter_54 rfl ?_
      refine r_iret dX6_squareAfter_55 rfl (by decide) (by decide) ?_
      refine ⟨?_, rfl⟩
      first | rw [sqI, if_pos (Int32.not_le.mp q6), if_pos q24] | rw [sqI, if_pos (Int32.not_le.mp q6), if_neg q24] | rw [sqI, if_neg (Int32.not_lt.mpr q6), if_pos q24] | rw [sqI, if_neg (Int32.not_lt.mpr q6), if_neg q24]
      rfl

set_option maxRecDepth 100000 in
theorem tX7_next {Γ : CT} {w : PW} {s way : Int32}  : Cl Γ yX7_next XX7_next 1 0 0 [.int s, .int way] w (rI (nxI s way) w) := by
  refine Cl.of (ls := [some (.int s), some (.int way), none, none]) rfl (by decide +kernel) (fun h => by cases h) (Nat.le_of_ble_eq_true rfl) rfl ?_
  refine r_iload_n 1 dX7_next_0 rfl rfl ?_
  refine r_callS0 4 dX7_next_1 rfl (tX7_columnOf) l_X7_65 mX7_columnOf rfl (by decide) (Nat.le_of_ble_eq_true rfl) (by decide) (qI ?_)
  refine r_iload_n 5 dX7_next_4 rfl rfl ?_
  refine r_iconst (v := 2) 6 dX7_next_5 rfl (by decide) ?_
  refine r_irem 7 dX7_next_6 rfl (by decide) ?_
  refine r_if_ne 14 10 dX7_next_7 (by decide) rfl (fun q24 => ?_) (fun q24 => ?_)
  · refine r_bipush (v := 11) 16 dX7_next_14 rfl (by decide) ?_
    refine r_iadd 17 dX7_next_16 rfl ?_
    refine r_bipush (v := 12) 19 dX7_next_17 rfl (by decide) ?_
    refine r_irem 20 dX7_next_19 rfl (by decide) ?_
    refine r_istore_n (ls1 := [_, _, _, _]) 21 dX7_next_20 rfl (by decide) rfl rfl ?_
    refine r_iload_n 22 dX7_next_21 rfl rfl ?_
    refine r_callS0 25 dX7_next_22 rfl (tX7_rowOf) l_X7_69 mX7_rowOf rfl (by decide) (Nat.le_of_ble_eq_true rfl) (by decide) (qI ?_)
    refine r_iload_n 26 dX7_next_25 rfl rfl ?_
    refine r_iconst (v := 2) 27 dX7_next_26 rfl (by decide) ?_
    refine r_icmp_ge 34 30 dX7_next_27 (by decide) rfl (fun q6 => ?_) (fun q6 => ?_)
    · refine r_bipush (v := 7) 36 dX7_next_34 rfl (by decide) ?_
      refine r_iadd 37 dX7_next_36 rfl ?_
      refine r_bipush (v := 8) 39 dX7_next_37 rfl (by decide) ?_
      refine r_irem 40 dX7_next_39 rfl (by decide) ?_
      refine r_istore_n (ls1 := [_, _, _, _]) 41 dX7_next_40 rfl (by decide) rfl rfl ?_
      refine r_bipush (v := 6) 43 dX7_next_41 rfl (by decide) ?_
      refine r_iload_n 44 dX7_next_43 rfl rfl ?_
      refine r_imul 45 dX7_next_44 rfl ?_
      refine r_iload_n 46 dX7_next_45 rfl rfl ?_
      refine r_iconst (v := 2) 47 dX7_next_46 rfl (by decide) ?_
      refine r_idiv 48 dX7_next_47 rfl (by decide) ?_
      refine r_iadd 49 dX7_next_48 rfl ?_
      refine r_iret dX7_next_49 rfl (by decide) (by decide) ?_
      refine ⟨?_, rfl⟩
      first | rw [nxI, if_pos (Int32.not_le.mp q6), if_pos q24] | rw [nxI, if_pos (Int32.not_le.mp q6), if_neg q24] | rw [nxI, if_neg (Int32.not_lt.mpr q6), if_pos q24] | rw [nxI, if_neg (Int32.not_lt.mpr q6), if_neg q24]
      rfl
    · refine r_iconst (v := 1) 31 dX7_next_30 rfl (by decide) ?_
      refine r_goto 36 dX7_next_31 (by decide) ?_
      refine r_iadd 37 dX7_next_36 rfl ?_
      refine r_bipush (v := 8) 39 dX7_next_37 rfl (by decide) ?_
      refine r_irem 40 dX7_next_39 rfl (by decide) ?_
      refine r_istore_n (ls1 := [_, _, _, _]) 41 dX7_next_40 rfl (by decide) rfl rfl ?_
      refine r_bipush (v := 6) 43 dX7_next_41 rfl (by decide) ?_
      refine r_iload_n 44 dX7_next_43 rfl rfl ?_
      refine r_imul 45 dX7_next_44 rfl ?_
      refine r_iload_n 46 dX7_next_45 rfl rfl ?_
      refine r_iconst (v := 2) 47 dX7_next_46 rfl (by decide) ?_
      refine r_idiv 48 dX7_next_47 rfl (by decide) ?_
      refine r_iadd 49 dX7_next_48 rfl ?_
      refine r_iret dX7_next_49 rfl (by decide) (by decide) ?_
      refine ⟨?_, rfl⟩
      first | rw [nxI, if_pos (Int32.not_le.mp q6), if_pos q24] | rw [nxI, if_pos (Int32.not_le.mp q6), if_neg q24] | rw [nxI, if_neg (Int32.not_lt.mpr q6), if_pos q24] | rw [nxI, if_neg (Int32.not_lt.mpr q6), if_neg q24]
      rfl
  · refine r_iconst (v := 1) 11 dX7_next_10 rfl (by decide) ?_
    refine r_goto 16 dX7_next_11 (by decide) ?_
    refine r_iadd 17 dX7_next_16 rfl ?_
    refine r_bipush (v := 12) 19 dX7_next_17 rfl (by decide) ?_
    refine r_irem 20 dX7_next_19 rfl (by decide) ?_
    refine r_istore_n (ls1 := [_, _, _, _]) 21 dX7_next_20 rfl (by decide) rfl rfl ?_
    refine r_iload_n 22 dX7_next_21 rfl rfl ?_
    refine r_callS0 25 dX7_next_22 rfl (tX7_rowOf) l_X7_69 mX7_rowOf rfl (by decide) (Nat.le_of_ble_eq_true rfl) (by decide) (qI ?_)
    refine r_iload_n 26 dX7_next_25 rfl rfl ?_
    refine r_iconst (v := 2) 27 dX7_next_26 rfl (by decide) ?_
    refine r_icmp_ge 34 30 dX7_next_27 (by decide) rfl (fun q6 => ?_) (fun q6 => ?_)
    · refine r_bipush (v := 7) 36 dX7_next_34 rfl (by decide) ?_
      refine r_iadd 37 dX7_next_36 rfl ?_
      refine r_bipush (v := 8) 39 dX7_next_37 rfl (by decide) ?_
      refine r_irem 40 dX7_next_39 rfl (by decide) ?_
      refine r_istore_n (ls1 := [_, _, _, _]) 41 dX7_next_40 rfl (by decide) rfl rfl ?_
      refine r_bipush (v := 6) 43 dX7_next_41 rfl (by decide) ?_
      refine r_iload_n 44 dX7_next_43 rfl rfl ?_
      refine r_imul 45 dX7_next_44 rfl ?_
      refine r_iload_n 46 dX7_next_45 rfl rfl ?_
      refine r_iconst (v := 2) 47 dX7_next_46 rfl (by decide) ?_
      refine r_idiv 48 dX7_next_47 rfl (by decide) ?_
      refine r_iadd 49 dX7_next_48 rfl ?_
      refine r_iret dX7_next_49 rfl (by decide) (by decide) ?_
      refine ⟨?_, rfl⟩
      first | rw [nxI, if_pos (Int32.not_le.mp q6), if_pos q24] | rw [nxI, if_pos (Int32.not_le.mp q6), if_neg q24] | rw [nxI, if_neg (Int32.not_lt.mpr q6), if_pos q24] | rw [nxI, if_neg (Int32.not_lt.mpr q6), if_neg q24]
      rfl
    · refine r_iconst (v := 1) 31 dX7_next_30 rfl (by decide) ?_
      refine r_goto 36 dX7_next_31 (by decide) ?_
      refine r_iadd 37 dX7_next_36 rfl ?_
      refine r_bipush (v := 8) 39 dX7_next_37 rfl (by decide) ?_
      refine r_irem 40 dX7_next_39 rfl (by decide) ?_
      refine r_istore_n (ls1 := [_, _, _, _]) 41 dX7_next_40 rfl (by decide) rfl rfl ?_
      refine r_bipush (v := 6) 43 dX7_next_41 rfl (by decide) ?_
      refine r_iload_n 44 dX7_next_43 rfl rfl ?_
      refine r_imul 45 dX7_next_44 rfl ?_
      refine r_iload_n 46 dX7_next_45 rfl rfl ?_
      refine r_iconst (v := 2) 47 dX7_next_46 rfl (by decide) ?_
      refine r_idiv 48 dX7_next_47 rfl (by decide) ?_
      refine r_iadd 49 dX7_next_48 rfl ?_
      refine r_iret dX7_next_49 rfl (by decide) (by decide) ?_
      refine ⟨?_, rfl⟩
      first | rw [nxI, if_pos (Int32.not_le.mp q6), if_pos q24] | rw [nxI, if_pos (Int32.not_le.mp q6), if_neg q24] | rw [nxI, if_neg (Int32.not_lt.mpr q6), if_pos q24] | rw [nxI, if_neg (Int32.not_lt.mpr q6), if_neg q24]
      rfl

set_option maxRecDepth 100000 in
theorem tX0_pieceAt {Γ : CT} {w : PW} {b : Nat} {f n : Nat → Int32} {mv jp : Int32} {s : Int32} (hb : isBd w b f n mv jp) : Cl Γ yX0_pieceAt XX0_pieceAt 0 0 0 [.ref b, .int s] w (rI (pAt f s) w) := by
  refine Cl.of (ls := [some (.ref b), some (.int s)]) rfl (by decide +kernel) (fun h => by cases h) (Nat.le_of_ble_eq_true rfl) rfl ?_
  obtain ⟨h0, h1, h2⟩ := id hb
  refine r_iload_n 1 dX0_pieceAt_0 rfl rfl ?_
  refine r_if_lt 22 4 dX0_pieceAt_1 (by decide) rfl (fun q1 => ?_) (fun q1 => ?_)
  · refine r_bipush (v := (-6)) 24 dX0_pieceAt_22 rfl (by decide) ?_
    refine r_iret dX0_pieceAt_24 rfl (by decide) (by decide) ?_
    first | exact ⟨by rw [pAt_nI hj], rfl⟩ | exact ⟨by rw [pAt_out (Or.inl q1)], rfl⟩ | exact ⟨by rw [pAt_out (Or.inr q10)], rfl⟩
  · refine r_iload_n 5 dX0_pieceAt_4 rfl rfl ?_
    refine r_aload_n 6 dX0_pieceAt_5 rfl rfl rfl ?_
    refine r_getf 9 dX0_pieceAt_6 rfl f_X0_9.r (by repeat (first | assumption | refine gs_eq ?_ | refine gs_ne (by omega) ?_ | exact is_of (by assumption) | refine gs_is ?_)) rfl ?_
    refine r_alenI 10 dX0_pieceAt_9 rfl (by repeat (first | assumption | refine gs_eq ?_ | refine gs_ne (by omega) ?_ | exact is_of (by assumption) | refine gs_is ?_)) ?_
    refine r_icmp_ge 22 13 dX0_pieceAt_10 (by decide) rfl (fun q10 => ?_) (fun q10 => ?_)
    · refine r_bipush (v := (-6)) 24 dX0_pieceAt_22 rfl (by decide) ?_
      refine r_iret dX0_pieceAt_24 rfl (by decide) (by decide) ?_
      first | exact ⟨by rw [pAt_nI hj], rfl⟩ | exact ⟨by rw [pAt_out (Or.inl q1)], rfl⟩ | exact ⟨by rw [pAt_out (Or.inr q10)], rfl⟩
    · refine r_aload_n 14 dX0_pieceAt_13 rfl rfl rfl ?_
      refine r_getf 17 dX0_pieceAt_14 rfl f_X0_9.r (by repeat (first | assumption | refine gs_eq ?_ | refine gs_ne (by omega) ?_ | exact is_of (by assumption) | refine gs_is ?_)) rfl ?_
      refine r_iload_n 18 dX0_pieceAt_17 rfl rfl ?_
      obtain ⟨j, hj, rfl⟩ := ix_of q1 q10 (by decide)
      refine r_iald 19 dX0_pieceAt_18 rfl (j) (by repeat (first | assumption | refine gs_eq ?_ | refine gs_ne (by omega) ?_ | exact is_of (by assumption) | refine gs_is ?_)) rfl hj (by decide) ?_
      refine r_goto 24 dX0_pieceAt_19 (by decide) ?_
      refine r_iret dX0_pieceAt_24 rfl (by decide) (by decide) ?_
      first | exact ⟨by rw [pAt_nI hj], rfl⟩ | exact ⟨by rw [pAt_out (Or.inl q1)], rfl⟩ | exact ⟨by rw [pAt_out (Or.inr q10)], rfl⟩

set_option maxRecDepth 100000 in
theorem tX0_numberOf {Γ : CT} {w : PW} {b : Nat} {f n : Nat → Int32} {mv jp : Int32} {s : Int32} (hb : isBd w b f n mv jp) : Cl Γ yX0_numberOf XX0_numberOf 0 0 0 [.ref b, .int s] w (rI (nOf n s) w) := by
  refine Cl.of (ls := [some (.ref b), some (.int s)]) rfl (by decide +kernel) (fun h => by cases h) (Nat.le_of_ble_eq_true rfl) rfl ?_
  obtain ⟨h0, h1, h2⟩ := id hb
  refine r_iload_n 1 dX0_numberOf_0 rfl rfl ?_
  refine r_if_lt 22 4 dX0_numberOf_1 (by decide) rfl (fun q1 => ?_) (fun q1 => ?_)
  · refine r_iconst (v := 0) 23 dX0_numberOf_22 rfl (by decide) ?_
    refine r_iret dX0_numberOf_23 rfl (by decide) (by decide) ?_
    first | exact ⟨by rw [nOf_nI hj], rfl⟩ | exact ⟨by rw [nOf_out (Or.inl q1)], rfl⟩ | exact ⟨by rw [nOf_out (Or.inr q10)], rfl⟩
  · refine r_iload_n 5 dX0_numberOf_4 rfl rfl ?_
    refine r_aload_n 6 dX0_numberOf_5 rfl rfl rfl ?_
    refine r_getf 9 dX0_numberOf_6 rfl f_X0_15.r (by repeat (first | assumption | refine gs_eq ?_ | refine gs_ne (by omega) ?_ | exact is_of (by assumption) | refine gs_is ?_)) rfl ?_
    refine r_alenI 10 dX0_numberOf_9 rfl (by repeat (first | assumption | refine gs_eq ?_ | refine gs_ne (by omega) ?_ | exact is_of (by assumption) | refine gs_is ?_)) ?_
    refine r_icmp_ge 22 13 dX0_numberOf_10 (by decide) rfl (fun q10 => ?_) (fun q10 => ?_)
    · refine r_iconst (v := 0) 23 dX0_numberOf_22 rfl (by decide) ?_
      refine r_iret dX0_numberOf_23 rfl (by decide) (by decide) ?_
      first | exact ⟨by rw [nOf_nI hj], rfl⟩ | exact ⟨by rw [nOf_out (Or.inl q1)], rfl⟩ | exact ⟨by rw [nOf_out (Or.inr q10)], rfl⟩
    · refine r_aload_n 14 dX0_numberOf_13 rfl rfl rfl ?_
      refine r_getf 17 dX0_numberOf_14 rfl f_X0_15.r (by repeat (first | assumption | refine gs_eq ?_ | refine gs_ne (by omega) ?_ | exact is_of (by assumption) | refine gs_is ?_)) rfl ?_
      refine r_iload_n 18 dX0_numberOf_17 rfl rfl ?_
      obtain ⟨j, hj, rfl⟩ := ix_of q1 q10 (by decide)
      refine r_iald 19 dX0_numberOf_18 rfl (j) (by repeat (first | assumption | refine gs_eq ?_ | refine gs_ne (by omega) ?_ | exact is_of (by assumption) | refine gs_is ?_)) rfl hj (by decide) ?_
      refine r_goto 23 dX0_numberOf_19 (by decide) ?_
      refine r_iret dX0_numberOf_23 rfl (by decide) (by decide) ?_
      first | exact ⟨by rw [nOf_nI hj], rfl⟩ | exact ⟨by rw [nOf_out (Or.inl q1)], rfl⟩ | exact ⟨by rw [nOf_out (Or.inr q10)], rfl⟩

set_option maxRecDepth 100000 in
theorem tX0_addToNumber {Γ : CT} {w : PW} {b : Nat} {f n : Nat → Int32} {mv jp : Int32} {s m : Int32} (hb : isBd w b f n mv jp) : Cl Γ yX0_addToNumber XX0_addToNumber 0 0 0 [.ref b, .int s, .int m] w (rN (toBd w b f (adN n s m) mv jp)) := by
  refine Cl.of (ls := [some (.ref b), some (.int s), some (.int m)]) rfl (by decide +kernel) (fun h => by cases h) (Nat.le_of_ble_eq_true rfl) rfl ?_
  obtain ⟨h0, h1, h2⟩ := id hb
  refine r_iload_n 1 dX0_addToNumber_0 rfl rfl ?_
  refine r_if_lt 23 4 dX0_addToNumber_1 (by decide) rfl (fun q1 => ?_) (fun q1 => ?_)
  · refine r_vret dX0_addToNumber_23 rfl (by decide) (by decide) ?_
    first | exact ⟨rfl, by rw [adN_nI hj]; exact hb.setN⟩ | exact ⟨rfl, by rw [adN_out (Or.inl q1)]; exact ⟨Fr.rf, hb⟩⟩ | exact ⟨rfl, by rw [adN_out (Or.inr q10)]; exact ⟨Fr.rf, hb⟩⟩
  · refine r_iload_n 5 dX0_addToNumber_4 rfl rfl ?_
    refine r_aload_n 6 dX0_addToNumber_5 rfl rfl rfl ?_
    refine r_getf 9 dX0_addToNumber_6 rfl f_X0_15.r (by repeat (first | assumption | refine gs_eq ?_ | refine gs_ne (by omega) ?_ | exact is_of (by assumption) | refine gs_is ?_)) rfl ?_
    refine r_alenI 10 dX0_addToNumber_9 rfl (by repeat (first | assumption | refine gs_eq ?_ | refine gs_ne (by omega) ?_ | exact is_of (by assumption) | refine gs_is ?_)) ?_
    refine r_icmp_ge 23 13 dX0_addToNumber_10 (by decide) rfl (fun q10 => ?_) (fun q10 => ?_)
    · refine r_vret dX0_addToNumber_23 rfl (by decide) (by decide) ?_
      first | exact ⟨rfl, by rw [adN_nI hj]; exact hb.setN⟩ | exact ⟨rfl, by rw [adN_out (Or.inl q1)]; exact ⟨Fr.rf, hb⟩⟩ | exact ⟨rfl, by rw [adN_out (Or.inr q10)]; exact ⟨Fr.rf, hb⟩⟩
    · refine r_aload_n 14 dX0_addToNumber_13 rfl rfl rfl ?_
      refine r_getf 17 dX0_addToNumber_14 rfl f_X0_15.r (by repeat (first | assumption | refine gs_eq ?_ | refine gs_ne (by omega) ?_ | exact is_of (by assumption) | refine gs_is ?_)) rfl ?_
      refine r_iload_n 18 dX0_addToNumber_17 rfl rfl ?_
      refine r_dup2 19 dX0_addToNumber_18 rfl rfl rfl ?_
      obtain ⟨j, hj, rfl⟩ := ix_of q1 q10 (by decide)
      refine r_iald 20 dX0_addToNumber_19 rfl (j) (by repeat (first | assumption | refine gs_eq ?_ | refine gs_ne (by omega) ?_ | exact is_of (by assumption) | refine gs_is ?_)) rfl hj (by decide) ?_
      refine r_iload_n 21 dX0_addToNumber_20 rfl rfl ?_
      refine r_iadd 22 dX0_addToNumber_21 rfl ?_
      refine r_iast 23 dX0_addToNumber_22 rfl (j) (by repeat (first | assumption | refine gs_eq ?_ | refine gs_ne (by omega) ?_ | exact is_of (by assumption) | refine gs_is ?_)) rfl hj (by decide) ?_
      refine r_vret dX0_addToNumber_23 rfl (by decide) (by decide) ?_
      first | exact ⟨rfl, by rw [adN_nI hj]; exact hb.setN⟩ | exact ⟨rfl, by rw [adN_out (Or.inl q1)]; exact ⟨Fr.rf, hb⟩⟩ | exact ⟨rfl, by rw [adN_out (Or.inr q10)]; exact ⟨Fr.rf, hb⟩⟩

def menO (n : Nat → Int32) (s : Int32) : Int32 := nOf n (if s = 0 then 0 else 2)
def kngO (n : Nat → Int32) (s : Int32) : Int32 := nOf n (if s = 0 then 1 else 3)
set_option maxRecDepth 100000 in
theorem tX0_menOf {Γ : CT} {w : PW} {b : Nat} {f n : Nat → Int32} {mv jp : Int32} {s : Int32} (hb : isBd w b f n mv jp) : Cl Γ yX0_menOf XX0_menOf 1 0 0 [.ref b, .int s] w (rI (menO n s) w) := by
  refine Cl.of (ls := [some (.ref b), some (.int s)]) rfl (by decide +kernel) (fun h => by cases h) (Nat.le_of_ble_eq_true rfl) rfl ?_
  obtain ⟨h0, h1, h2⟩ := id hb
  refine r_aload_n 1 dX0_menOf_0 rfl rfl rfl ?_
  refine r_iload_n 2 dX0_menOf_1 rfl rfl ?_
  refine r_if_ne 9 5 dX0_menOf_2 (by decide) rfl (fun q2 => ?_) (fun q2 => ?_)
  · refine r_iconst (v := 2) 10 dX0_menOf_9 rfl (by decide) ?_
    refine r_callV0 13 dX0_menOf_10 rfl (tX0_numberOf hb) l_X0_44 mX0_numberOf rfl (by repeat (first | assumption | refine gs_eq ?_ | refine gs_ne (by omega) ?_ | exact is_of (by assumption) | refine gs_is ?_)) rfl (by decide) (Nat.le_of_ble_eq_true rfl) (by decide) (qI ?_)
    refine r_iret dX0_menOf_13 rfl (by decide) (by decide) ?_
    first | exact ⟨by rw [menO, if_pos q2], rfl⟩ | exact ⟨by rw [menO, if_neg q2], rfl⟩
  · refine r_iconst (v := 0) 6 dX0_menOf_5 rfl (by decide) ?_
    refine r_goto 10 dX0_menOf_6 (by decide) ?_
    refine r_callV0 13 dX0_menOf_10 rfl (tX0_numberOf hb) l_X0_44 mX0_numberOf rfl (by repeat (first | assumption | refine gs_eq ?_ | refine gs_ne (by omega) ?_ | exact is_of (by assumption) | refine gs_is ?_)) rfl (by decide) (Nat.le_of_ble_eq_true rfl) (by decide) (qI ?_)
    refine r_iret dX0_menOf_13 rfl (by decide) (by decide) ?_
    first | exact ⟨by rw [menO, if_pos q2], rfl⟩ | exact ⟨by rw [menO, if_neg q2], rfl⟩

set_option maxRecDepth 100000 in
theorem tX0_kingsOf {Γ : CT} {w : PW} {b : Nat} {f n : Nat → Int32} {mv jp : Int32} {s : Int32} (hb : isBd w b f n mv jp) : Cl Γ yX0_kingsOf XX0_kingsOf 1 0 0 [.ref b, .int s] w (rI (kngO n s) w) := by
  refine Cl.of (ls := [some (.ref b), some (.int s)]) rfl (by decide +kernel) (fun h => by cases h) (Nat.le_of_ble_eq_true rfl) rfl ?_
  obtain ⟨h0, h1, h2⟩ := id hb
  refine r_aload_n 1 dX0_kingsOf_0 rfl rfl rfl ?_
  refine r_iload_n 2 dX0_kingsOf_1 rfl rfl ?_
  refine r_callSN0 5 dX0_kingsOf_2 rfl (tX6_kingOf) l_X0_48 mX6_kingOf rfl (by decide) (Nat.le_of_ble_eq_true rfl) (by decide) (qI ?_)
  refine r_callV0 8 dX0_kingsOf_5 rfl (tX0_numberOf hb) l_X0_44 mX0_numberOf rfl (by repeat (first | assumption | refine gs_eq ?_ | refine gs_ne (by omega) ?_ | exact is_of (by assumption) | refine gs_is ?_)) rfl (by decide) (Nat.le_of_ble_eq_true rfl) (by decide) (qI ?_)
  refine r_iret dX0_kingsOf_8 rfl (by decide) (by decide) ?_
  exact ⟨rfl, rfl⟩

set_option maxRecDepth 100000 in
theorem tX0_piecesOf {Γ : CT} {w : PW} {b : Nat} {f n : Nat → Int32} {mv jp : Int32} {s : Int32} (hb : isBd w b f n mv jp) : Cl Γ yX0_piecesOf XX0_piecesOf 2 0 0 [.ref b, .int s] w (rI (menO n s + kngO n s) w) := by
  refine Cl.of (ls := [some (.ref b), some (.int s)]) rfl (by decide +kernel) (fun h => by cases h) (Nat.le_of_ble_eq_true rfl) rfl ?_
  obtain ⟨h0, h1, h2⟩ := id hb
  refine r_aload_n 1 dX0_piecesOf_0 rfl rfl rfl ?_
  refine r_iload_n 2 dX0_piecesOf_1 rfl rfl ?_
  refine r_callV0 5 dX0_piecesOf_2 rfl (tX0_menOf hb) l_X0_51 mX0_menOf rfl (by repeat (first | assumption | refine gs_eq ?_ | refine gs_ne (by omega) ?_ | exact is_of (by assumption) | refine gs_is ?_)) rfl (by decide) (Nat.le_of_ble_eq_true rfl) (by decide) (qI ?_)
  refine r_aload_n 6 dX0_piecesOf_5 rfl rfl rfl ?_
  refine r_iload_n 7 dX0_piecesOf_6 rfl rfl ?_
  refine r_callV0 10 dX0_piecesOf_7 rfl (tX0_kingsOf hb) l_X0_54 mX0_kingsOf rfl (by repeat (first | assumption | refine gs_eq ?_ | refine gs_ne (by omega) ?_ | exact is_of (by assumption) | refine gs_is ?_)) rfl (by decide) (Nat.le_of_ble_eq_true rfl) (by decide) (qI ?_)
  refine r_iadd 11 dX0_piecesOf_10 rfl ?_
  refine r_iret dX0_piecesOf_11 rfl (by decide) (by decide) ?_
  exact ⟨rfl, rfl⟩

set_option maxRecDepth 100000 in
theorem tX0_worthOf {Γ : CT} {w : PW} {b : Nat} {f n : Nat → Int32} {mv jp : Int32} {s : Int32} (hb : isBd w b f n mv jp) : Cl Γ yX0_worthOf XX0_worthOf 2 0 0 [.ref b, .int s] w (rI (menO n s + 3 * kngO n s) w) := by
  refine Cl.of (ls := [some (.ref b), some (.int s)]) rfl (by decide +kernel) (fun h => by cases h) (Nat.le_of_ble_eq_true rfl) rfl ?_
  obtain ⟨h0, h1, h2⟩ := id hb
  refine r_aload_n 1 dX0_worthOf_0 rfl rfl rfl ?_
  refine r_iload_n 2 dX0_worthOf_1 rfl rfl ?_
  refine r_callV0 5 dX0_worthOf_2 rfl (tX0_menOf hb) l_X0_51 mX0_menOf rfl (by repeat (first | assumption | refine gs_eq ?_ | refine gs_ne (by omega) ?_ | exact is_of (by assumption) | refine gs_is ?_)) rfl (by decide) (Nat.le_of_ble_eq_true rfl) (by decide) (qI ?_)
  refine r_iconst (v := 3) 6 dX0_worthOf_5 rfl (by decide) ?_
  refine r_aload_n 7 dX0_worthOf_6 rfl rfl rfl ?_
  refine r_iload_n 8 dX0_worthOf_7 rfl rfl ?_
  refine r_callV0 11 dX0_worthOf_8 rfl (tX0_kingsOf hb) l_X0_54 mX0_kingsOf rfl (by repeat (first | assumption | refine gs_eq ?_ | refine gs_ne (by omega) ?_ | exact is_of (by assumption) | refine gs_is ?_)) rfl (by decide) (Nat.le_of_ble_eq_true rfl) (by decide) (qI ?_)
  refine r_imul 12 dX0_worthOf_11 rfl ?_
  refine r_iadd 13 dX0_worthOf_12 rfl ?_
  refine r_iret dX0_worthOf_13 rfl (by decide) (by decide) ?_
  exact ⟨rfl, rfl⟩

set_option maxRecDepth 100000 in
theorem tX0_place {Γ : CT} {w : PW} {b : Nat} {f n : Nat → Int32} {mv jp : Int32} {s p : Int32} (hb : isBd w b f n mv jp) : Cl Γ yX0_place XX0_place 1 0 0 [.ref b, .int s, .int p] w (rN (toBd w b (plF f s p) (plN f n s p) mv jp)) := by
  refine Cl.of (ls := [some (.ref b), some (.int s), some (.int p)]) rfl (by decide +kernel) (fun h => by cases h) (Nat.le_of_ble_eq_true rfl) rfl ?_
  obtain ⟨h0, h1, h2⟩ := id hb
  refine r_iload_n 1 dX0_place_0 rfl rfl ?_
  refine r_if_lt 13 4 dX0_place_1 (by decide) rfl (fun q1 => ?_) (fun q1 => ?_)
  · refine r_vret dX0_place_13 rfl (by decide) (by decide) ?_
    first | exact ⟨rfl, by rw [plF_out (Or.inl q1), plN_out (Or.inl q1)]; exact ⟨Fr.rf, hb⟩⟩ | exact ⟨rfl, by rw [plF_out (Or.inr (Int32.not_lt.mp q10)), plN_out (Or.inr (Int32.not_lt.mp q10))]; exact ⟨Fr.rf, hb⟩⟩
  · refine r_iload_n 5 dX0_place_4 rfl rfl ?_
    refine r_aload_n 6 dX0_place_5 rfl rfl rfl ?_
    refine r_getf 9 dX0_place_6 rfl f_X0_9.r (by repeat (first | assumption | refine gs_eq ?_ | refine gs_ne (by omega) ?_ | exact is_of (by assumption) | refine gs_is ?_)) rfl ?_
    refine r_alenI 10 dX0_place_9 rfl (by repeat (first | assumption | refine gs_eq ?_ | refine gs_ne (by omega) ?_ | exact is_of (by assumption) | refine gs_is ?_)) ?_
    refine r_icmp_lt 14 13 dX0_place_10 (by decide) rfl (fun q10 => ?_) (fun q10 => ?_)
    · obtain ⟨j, hj, rfl⟩ := ix_of q1 (Int32.not_le.mpr q10) (by decide)
      refine r_aload_n 15 dX0_place_14 rfl rfl rfl ?_
      refine r_aload_n 16 dX0_place_15 rfl rfl rfl ?_
      refine r_getf 19 dX0_place_16 rfl f_X0_9.r (by repeat (first | assumption | refine gs_eq ?_ | refine gs_ne (by omega) ?_ | exact is_of (by assumption) | refine gs_is ?_)) rfl ?_
      refine r_iload_n 20 dX0_place_19 rfl rfl ?_
      refine r_iald 21 dX0_place_20 rfl (j) (by repeat (first | assumption | refine gs_eq ?_ | refine gs_ne (by omega) ?_ | exact is_of (by assumption) | refine gs_is ?_)) rfl hj (by decide) ?_
      refine r_iconst (v := (-1)) 22 dX0_place_21 rfl (by decide) ?_
      refine r_callV0 25 dX0_place_22 rfl (tX0_addToNumber hb) l_X0_41 mX0_addToNumber rfl (by repeat (first | assumption | refine gs_eq ?_ | refine gs_ne (by omega) ?_ | exact is_of (by assumption) | refine gs_is ?_)) rfl (by decide) (Nat.le_of_ble_eq_true rfl) (by decide) (qN fun w1 hq1 => ?_)
      obtain ⟨h0, h1, h2⟩ := id hq1.2
      refine r_aload_n 26 dX0_place_25 rfl rfl rfl ?_
      refine r_iload_n 27 dX0_place_26 rfl rfl ?_
      refine r_iconst (v := 1) 28 dX0_place_27 rfl (by decide) ?_
      refine r_callV0 31 dX0_place_28 rfl (tX0_addToNumber hq1.2) l_X0_41 mX0_addToNumber rfl (by repeat (first | assumption | refine gs_eq ?_ | refine gs_ne (by omega) ?_ | exact is_of (by assumption) | refine gs_is ?_)) rfl (by decide) (Nat.le_of_ble_eq_true rfl) (by decide) (qN fun w2 hq2 => ?_)
      obtain ⟨h0, h1, h2⟩ := id hq2.2
      refine r_aload_n 32 dX0_place_31 rfl rfl rfl ?_
      refine r_getf 35 dX0_place_32 rfl f_X0_9.r (by repeat (first | assumption | refine gs_eq ?_ | refine gs_ne (by omega) ?_ | exact is_of (by assumption) | refine gs_is ?_)) rfl ?_
      refine r_iload_n 36 dX0_place_35 rfl rfl ?_
      refine r_iload_n 37 dX0_place_36 rfl rfl ?_
      refine r_iast 38 dX0_place_37 rfl (j) (by repeat (first | assumption | refine gs_eq ?_ | refine gs_ne (by omega) ?_ | exact is_of (by assumption) | refine gs_is ?_)) rfl hj (by decide) ?_
      refine r_vret dX0_place_38 rfl (by decide) (by decide) ?_
      exact ⟨rfl, by rw [plF_nI hj, plN_nI hj]; exact (hq1.tr hq2).tr hq2.2.setF⟩
    · refine r_vret dX0_place_13 rfl (by decide) (by decide) ?_
      first | exact ⟨rfl, by rw [plF_out (Or.inl q1), plN_out (Or.inl q1)]; exact ⟨Fr.rf, hb⟩⟩ | exact ⟨rfl, by rw [plF_out (Or.inr (Int32.not_lt.mp q10)), plN_out (Or.inr (Int32.not_lt.mp q10))]; exact ⟨Fr.rf, hb⟩⟩

