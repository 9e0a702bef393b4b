/-! ===== the calls: undo, slots, hops, what there is ===== -/
theorem sw_out5 {v : Int32} (h0 : ¬ v = 0) (h1 : ¬ v = 1) (h2 : ¬ v = 2) (h3 : ¬ v = 3) (h4 : ¬ v = 4) : v.toInt < 0 ∨ 4 < v.toInt := by
  have g0 : v.toInt ≠ 0 := fun e => h0 (Int32.toInt_inj.mp (by rw [e]; rfl))
  have g1 : v.toInt ≠ 1 := fun e => h1 (Int32.toInt_inj.mp (by rw [e]; rfl))
  have g2 : v.toInt ≠ 2 := fun e => h2 (Int32.toInt_inj.mp (by rw [e]; rfl))
  have g3 : v.toInt ≠ 3 := fun e => h3 (Int32.toInt_inj.mp (by rw [e]; rfl))
  have g4 : v.toInt ≠ 4 := fun e => h4 (Int32.toInt_inj.mp (by rw [e]; rfl))
  omega
theorem sw_out7 {v : Int32} (h0 : ¬ v = 0) (h1 : ¬ v = 1) (h2 : ¬ v = 2) (h3 : ¬ v = 3) (h4 : ¬ v = 4) (h5 : ¬ v = 5) (h6 : ¬ v = 6) : v.toInt < 0 ∨ 6 < v.toInt := by
  have g0 : v.toInt ≠ 0 := fun e => h0 (Int32.toInt_inj.mp (by rw [e]; rfl))
  have g1 : v.toInt ≠ 1 := fun e => h1 (Int32.toInt_inj.mp (by rw [e]; rfl))
  have g2 : v.toInt ≠ 2 := fun e => h2 (Int32.toInt_inj.mp (by rw [e]; rfl))
  have g3 : v.toInt ≠ 3 := fun e => h3 (Int32.toInt_inj.mp (by rw [e]; rfl))
  have g4 : v.toInt ≠ 4 := fun e => h4 (Int32.toInt_inj.mp (by rw [e]; rfl))
  have g5 : v.toInt ≠ 5 := fun e => h5 (Int32.toInt_inj.mp (by rw [e]; rfl))
  have g6 : v.toInt ≠ 6 := fun e => h6 (Int32.toInt_inj.mp (by rw [e]; rfl))
  omega
theorem sw_out10 {v : Int32} (h0 : ¬ v = 0) (h1 : ¬ v = 1) (h2 : ¬ v = 2) (h3 : ¬ v = 3) (h4 : ¬ v = 4) (h5 : ¬ v = 5) (h6 : ¬ v = 6) (h7 : ¬ v = 7) (h8 : ¬ v = 8) (h9 : ¬ v = 9) : v.toInt < 0 ∨ 9 < v.toInt := by
  have g0 : v.toInt ≠ 0 := fun e => h0 (Int32.toInt_inj.mp (by rw [e]; rfl))
  have g1 : v.toInt ≠ 1 := fun e => h1 (Int32.toInt_inj.mp (by rw [e]; rfl))
  have g2 : v.toInt ≠ 2 := fun e => h2 (Int32.toInt_inj.mp (by rw [e]; rfl))
  have g3 : v.toInt ≠ 3 := fun e => h3 (Int32.toInt_inj.mp (by rw [e]; rfl))
  have g4 : v.toInt ≠ 4 := fun e => h4 (Int32.toInt_inj.mp (by rw [e]; rfl))
  have g5 : v.toInt ≠ 5 := fun e => h5 (Int32.toInt_inj.mp (by rw [e]; rfl))
  have g6 : v.toInt ≠ 6 := fun e => h6 (Int32.toInt_inj.mp (by rw [e]; rfl))
  have g7 : v.toInt ≠ 7 := fun e => h7 (Int32.toInt_inj.mp (by rw [e]; rfl))
  have g8 : v.toInt ≠ 8 := fun e => h8 (Int32.toInt_inj.mp (by rw [e]; rfl))
  have g9 : v.toInt ≠ 9 := fun e => h9 (Int32.toInt_inj.mp (by rw [e]; rfl))
  omega
theorem isHi.drop {w w1 : PW} {H : List GS} {S : Nat → Option GS} (k : isHi w H S) (hF : Fr w w1 (fun q => q = 8 ∨ gS 1 q)) (h8 : w1[8]? = some (oB 2 [.ref 9, .int (nI (H.length - 1))])) : isHi w1 H.dropLast S := by
  obtain ⟨st, sl, h1, h2, h3, h4, h5, h6, h7⟩ := k
  refine ⟨st, sl, by rw [List.length_dropLast]; exact h8, hF.at (by unfold gS; omega) h2, hF.at (by unfold gS; omega) h3, by rw [List.length_dropLast]; omega, ?_, h6, by rw [hF.1]; exact h7⟩
  refine isPl.ord (h5.fr (fun q a b => hF.2 q (by unfold gS; omega)) (by rw [hF.1]; exact Nat.le_refl _)) (fun i => i) (fun i j e => e) (fun i => rfl) (fun i G e => ?_)
  unfold hsL at e ⊢
  by_cases h : i < 6
  · rw [cmb_lo h] at e ⊢
    rw [List.getElem?_dropLast] at e
    split at e
    · exact e
    · cases e
  · rw [cmb_hi (by omega)] at e ⊢
    exact e
theorem isRD.back {w w1 : PW} {G G1 : GS} {H : List GS} {S : Nat → Option GS} {pf : Nat → Int32} {pn : Nat} (k : isRD w G H S pf pn) (hF : Fr w w1 (fun q => q = 8 ∨ gS 1 q)) (h8 : w1[8]? = some (oB 2 [.ref 9, .int (nI (H.length - 1))])) (hG : isGS w1 1 G1) : toRD w G1 H.dropLast S pf pn w1 := by
  obtain ⟨k1, k2, k3, k4, k5⟩ := k
  have hA : ∀ q, (q < 1 ∨ 9 ≤ q) → w1[q]? = w[q]? := fun q h => hF.2 q (by unfold gS; omega)
  exact ⟨⟨k1.ag (hA _ (by omega)) (hA _ (by omega)) (hA _ (by omega)) (hA _ (by omega)), hG, k3.drop hF h8, k4.ag (hA _ (by omega)) (hA _ (by omega)), k5.ag (fun q a b => hA q (by omega))⟩, fun q a b => hA q (by omega)⟩
set_option maxRecDepth 100000 in
theorem tX6_undo {Γ : CT} {w : PW} {f n : Nat → Int32} {mv jp : Int32} {cl lo : Nat → Int32} {ps : List T3} {cs mk qt oc : Int32} {H : List GS} {S : Nat → Option GS} {pf : Nat → Int32} {pn : Nat} {G1 : GS} (hr : isRD w (f, n, mv, jp, cl, lo, ps, cs, mk, qt, oc) H S pf pn) (hG1 : 0 < H.length → H[H.length - 1]? = some G1) : Cl Γ yX6_undo XX6_undo 7 0 0 [.ref 0] w (if H.length = 0 then rI (-5) w else rP (nI (H.length - 1)) (toRD w G1 H.dropLast S pf pn)) := by
  refine Cl.of (ls := [some (.ref 0)]) rfl (by decide +kernel) (fun h => by cases h) (Nat.le_of_ble_eq_true rfl) rfl ?_
  obtain ⟨⟨r0, r13, r14, r15⟩, rg, ⟨st, sl, r8, r9, r10, rH, rp, rS, rk⟩, rd, rs⟩ := id hr
  have rG : isGm w 1 f n mv jp cl lo ps cs mk qt oc := rg
  obtain ⟨g1, gb, g5, g6, gl, pfG, gO, g7⟩ := id rG
  have gb0 := gb.1
  have rd0 := rd.1
  refine r_aload_n 1 dX6_undo_0 rfl rfl rfl ?_
  refine r_getf 4 dX6_undo_1 rfl f_X6_19.r (by repeat (first | assumption | exact isBd.o (by assumption) | exact isHp.o (by assumption) | exact isGm.o (by assumption) | exact isPd.o (by assumption) | refine gs_eq ?_ | refine gs_ne (by omega) ?_ | exact is_of (by assumption) | refine gs_is ?_)) rfl ?_
  refine r_getf 7 dX6_undo_4 rfl f_X6_203.r (by repeat (first | assumption | exact isBd.o (by assumption) | exact isHp.o (by assumption) | exact isGm.o (by assumption) | exact isPd.o (by assumption) | refine gs_eq ?_ | refine gs_ne (by omega) ?_ | exact is_of (by assumption) | refine gs_is ?_)) rfl ?_
  refine r_if_ne 13 10 dX6_undo_7 (by decide) rfl (fun q7 => ?_) (fun q7 => ?_)
  · refine r_aload_n 14 dX6_undo_13 rfl rfl rfl ?_
    refine r_getf 17 dX6_undo_14 rfl f_X6_19.r (by repeat (first | assumption | exact isBd.o (by assumption) | exact isHp.o (by assumption) | exact isGm.o (by assumption) | exact isPd.o (by assumption) | refine gs_eq ?_ | refine gs_ne (by omega) ?_ | exact is_of (by assumption) | refine gs_is ?_)) rfl ?_
    refine r_aload_n 18 dX6_undo_17 rfl rfl rfl ?_
    refine r_getf 21 dX6_undo_18 rfl f_X6_10.r (by repeat (first | assumption | exact isBd.o (by assumption) | exact isHp.o (by assumption) | exact isGm.o (by assumption) | exact isPd.o (by assumption) | refine gs_eq ?_ | refine gs_ne (by omega) ?_ | exact is_of (by assumption) | refine gs_is ?_)) rfl ?_
    have h0 : 0 < H.length := Nat.pos_of_ne_zero (fun z => q7 (by rw [z]; rfl))
    obtain ⟨gx, x1, x2, ax, x3⟩ := rp.get (i := H.length - 1) (G := G1) (by unfold hsL; rw [cmb_lo (by omega)]; exact hG1 h0)
    rw [cmb_lo (by omega)] at x1
    refine r_callV0 24 dX6_undo_21 rfl (tX2_takeBack (h := 8) (g := 1) r8 r9 rH h0 rg x1 x2 (by omega) (by decide)) l_X6_231 mX2_takeBack rfl (by repeat (first | assumption | exact isBd.o (by assumption) | exact isHp.o (by assumption) | exact isGm.o (by assumption) | exact isPd.o (by assumption) | refine gs_eq ?_ | refine gs_ne (by omega) ?_ | exact is_of (by assumption) | refine gs_is ?_)) rfl (by decide) (Nat.le_of_ble_eq_true rfl) (by decide) (qN fun w1 h1 => ?_)
    have e0 := (h1.1.2 0 (by unfold gS; omega)).trans r0
    have e8 := h1.2.1
    refine r_aload_n 25 dX6_undo_24 rfl rfl rfl ?_
    refine r_getf 28 dX6_undo_25 rfl f_X6_19.r (by repeat (first | assumption | exact isBd.o (by assumption) | exact isHp.o (by assumption) | exact isGm.o (by assumption) | exact isPd.o (by assumption) | refine gs_eq ?_ | refine gs_ne (by omega) ?_ | exact is_of (by assumption) | refine gs_is ?_)) rfl ?_
    refine r_getf 31 dX6_undo_28 rfl f_X6_203.r (by repeat (first | assumption | exact isBd.o (by assumption) | exact isHp.o (by assumption) | exact isGm.o (by assumption) | exact isPd.o (by assumption) | refine gs_eq ?_ | refine gs_ne (by omega) ?_ | exact is_of (by assumption) | refine gs_is ?_)) rfl ?_
    refine r_iret dX6_undo_31 rfl (by decide) (by decide) ?_
    rw [if_neg (by omega)]
    exact ⟨rfl, hr.back h1.1 h1.2.1 h1.2.2⟩
  · refine r_bipush (v := (-5)) 12 dX6_undo_10 rfl (by decide) ?_
    refine r_iret dX6_undo_12 rfl (by decide) (by decide) ?_
    rw [if_pos (nI_z (by omega) q7)]
    exact ⟨rfl, rfl⟩

theorem slot_ix {x : Int32} (h : 0 ≤ x ∧ x < 2) : ∃ j : Nat, j < 2 ∧ x = nI j := ix_of (n := 2) (Int32.not_lt.mpr h.1) (Int32.not_le.mpr h.2) (by decide)
theorem hi_slot {w w1 : PW} {g j : Nat} {st sl : Nat → Option Nat} {H : List GS} {S : Nat → Option GS} {G : GS} (k : isPl w 59 (cmb st sl) (hsL H S)) (hi : sl j = some g) (hF : ∀ q, 59 ≤ q → q < w.length → ¬ gS g q → w1[q]? = w[q]?) (hG : isGS w1 g G) : isPl w1 59 (cmb st sl) (hsL H (va_up S j (some G))) := by
  refine k.put (i0 := 6 + j) (by rw [cmb_hi (by omega), Nat.add_sub_cancel_left]; exact hi) hF hG (fun i G0 e => ?_)
  unfold hsL at e ⊢
  by_cases h6 : i < 6
  · rw [cmb_lo h6] at e ⊢
    exact Or.inr ⟨by omega, e⟩
  · rw [cmb_hi (by omega)] at e ⊢
    by_cases h7 : i - 6 = j
    · rw [h7, va_up_self] at e
      cases e
      exact Or.inl ⟨by omega, rfl⟩
    · rw [va_up_ne _ _ h7] at e
      exact Or.inr ⟨by omega, e⟩
set_option maxRecDepth 100000 in
theorem tX6_save {Γ : CT} {w : PW} {f n : Nat → Int32} {mv jp : Int32} {cl lo : Nat → Int32} {ps : List T3} {cs mk qt oc : Int32} {H : List GS} {S : Nat → Option GS} {pf : Nat → Int32} {pn : Nat} {x : Int32} (hr : isRD w (f, n, mv, jp, cl, lo, ps, cs, mk, qt, oc) H S pf pn) : Cl Γ yX6_save XX6_save 7 7 252 [.ref 0, .int x] w (if 0 ≤ x ∧ x < 2 then rP mk (toRD w (f, n, mv, jp, cl, lo, ps, cs, mk, qt, oc) H (va_up S x.toNatClampNeg (some (f, n, mv, jp, cl, lo, ps, cs, mk, qt, oc))) pf pn) else rI (-2) w) := by
  refine Cl.of (ls := [some (.ref 0), some (.int x), none]) rfl (by decide +kernel) (fun h => by cases h) (Nat.le_of_ble_eq_true rfl) rfl ?_
  obtain ⟨⟨r0, r13, r14, r15⟩, rg, ⟨st, sl, r8, r9, r10, rH, rp, rS, rk⟩, rd, rs⟩ := id hr
  have rG : isGm w 1 f n mv jp cl lo ps cs mk qt oc := rg
  obtain ⟨g1, gb, g5, g6, gl, pfG, gO, g7⟩ := id rG
  have gb0 := gb.1
  have rd0 := rd.1
  refine r_iload_n 1 dX6_save_0 rfl rfl ?_
  refine r_if_lt 13 4 dX6_save_1 (by decide) rfl (fun q1 => ?_) (fun q1 => ?_)
  · refine r_bipush (v := (-2)) 15 dX6_save_13 rfl (by decide) ?_
    refine r_iret dX6_save_15 rfl (by decide) (by decide) ?_
    rw [if_neg (by first | exact (fun z => Int32.not_lt.mpr z.1 q1) | exact (fun z => q10 z.2))]
    exact ⟨rfl, rfl⟩
  · refine r_iload_n 5 dX6_save_4 rfl rfl ?_
    refine r_aload_n 6 dX6_save_5 rfl rfl rfl ?_
    refine r_getf 9 dX6_save_6 rfl f_X6_23.r (by repeat (first | assumption | exact isBd.o (by assumption) | exact isHp.o (by assumption) | exact isGm.o (by assumption) | exact isPd.o (by assumption) | refine gs_eq ?_ | refine gs_ne (by omega) ?_ | exact is_of (by assumption) | refine gs_is ?_)) rfl ?_
    refine r_alenG 10 dX6_save_9 rfl (by repeat (first | assumption | exact isBd.o (by assumption) | exact isHp.o (by assumption) | exact isGm.o (by assumption) | exact isPd.o (by assumption) | refine gs_eq ?_ | refine gs_ne (by omega) ?_ | exact is_of (by assumption) | refine gs_is ?_)) ?_
    refine r_icmp_lt 16 13 dX6_save_10 (by decide) rfl (fun q10 => ?_) (fun q10 => ?_)
    · have hx : 0 ≤ x ∧ x < 2 := ⟨Int32.not_lt.mp q1, q10⟩
      obtain ⟨j, hj, rfl⟩ := slot_ix hx
      have tail2 : ∀ (kc ks : Nat) (v : PW) (sl2 : Nat → Option Nat) (gx : Nat), kc ≤ 7 → ks ≤ 252 → sl2 j = some gx → (∀ i, i ≠ j → sl2 i = sl i) → isTp v → isGS v 1 (f, n, mv, jp, cl, lo, ps, cs, mk, qt, oc) → v[8]? = some (oB 2 [.ref 9, .int (nI H.length)]) → v[9]? = some (aG 6 st) → v[10]? = some (aG 2 sl2) → isPl v 59 (cmb st sl2) (hsL H S) → (∃ k, v.length = 59 + 7 * k) → isPd v 11 pf pn → isSc v → FrM w v → Rn Γ XX6_save (rmO 7 7 252) none (FinM (if 0 ≤ nI j ∧ nI j < 2 then rP mk (toRD w (f, n, mv, jp, cl, lo, ps, cs, mk, qt, oc) H (va_up S (nI j).toNatClampNeg (some (f, n, mv, jp, cl, lo, ps, cs, mk, qt, oc))) pf pn) else rI (-2) w) 7 252) kc ks v 42 [some (.ref 0), some (.int (nI j)), some (.ref gx)] [] := by
        intro kc ks v sl2 gx hkc hks hgx hsn ht hG h8 h9 h10 hp hle hpd hsc hM
        obtain ⟨⟨ax, hax⟩, Gx, hGx, -⟩ := hp.1 (6 + j) gx (by rw [cmb_hi (by omega), Nat.add_sub_cancel_left]; exact hgx)
        have hG0 : isGm v 1 f n mv jp cl lo ps cs mk qt oc := hG
        have hGx0 := hGx.1
        have t0 := ht.1
        have t1 := hG0.1
        refine r_aload_n 43 dX6_save_42 rfl rfl rfl ?_
        refine r_aload_n 44 dX6_save_43 rfl rfl rfl ?_
        refine r_getf 47 dX6_save_44 rfl f_X6_10.r (by repeat (first | assumption | exact isBd.o (by assumption) | exact isHp.o (by assumption) | exact isGm.o (by assumption) | exact isPd.o (by assumption) | refine gs_eq ?_ | refine gs_ne (by omega) ?_ | exact is_of (by assumption) | refine gs_is ?_)) rfl ?_
        refine r_callV0 50 dX6_save_47 rfl (tX1_copyFrom hGx hG0 (by omega)) l_X6_234 mX1_copyFrom rfl (by repeat (first | assumption | exact isBd.o (by assumption) | exact isHp.o (by assumption) | exact isGm.o (by assumption) | exact isPd.o (by assumption) | refine gs_eq ?_ | refine gs_ne (by omega) ?_ | exact is_of (by assumption) | refine gs_is ?_)) rfl (by decide) (Nat.le_of_ble_eq_true rfl) ⟨hkc, hks⟩ (qN fun w1 h1 => ?_)
        have d0 := (h1.1.2 0 (by unfold gS; omega)).trans ht.1
        have d1 := (h1.1.2 1 (by unfold gS; omega)).trans hG0.1
        refine r_aload_n 51 dX6_save_50 rfl rfl rfl ?_
        refine r_getf 54 dX6_save_51 rfl f_X6_10.r (by repeat (first | assumption | exact isBd.o (by assumption) | exact isHp.o (by assumption) | exact isGm.o (by assumption) | exact isPd.o (by assumption) | refine gs_eq ?_ | refine gs_ne (by omega) ?_ | exact is_of (by assumption) | refine gs_is ?_)) rfl ?_
        refine r_getf 57 dX6_save_54 rfl f_X6_191.r (by repeat (first | assumption | exact isBd.o (by assumption) | exact isHp.o (by assumption) | exact isGm.o (by assumption) | exact isPd.o (by assumption) | refine gs_eq ?_ | refine gs_ne (by omega) ?_ | exact is_of (by assumption) | refine gs_is ?_)) rfl ?_
        refine r_iret dX6_save_57 rfl hkc hks ?_
        rw [if_pos hx]
        have hF1 := h1.1
        rw [nI_clamp (by omega)]
        refine ⟨rfl, ⟨⟨?_, ?_, ⟨st, sl2, ?_, ?_, ?_, rH, ?_, ?_, ?_⟩, ?_, ?_⟩, ?_⟩⟩
        · exact ht.ag (hF1.2 _ (by unfold gS; omega)) (hF1.2 _ (by unfold gS; omega)) (hF1.2 _ (by unfold gS; omega)) (hF1.2 _ (by unfold gS; omega))
        · exact isGm.ag hG0 (fun q a b => hF1.2 q (by unfold gS; omega))
        · exact (hF1.2 _ (by unfold gS; omega)).trans h8
        · exact (hF1.2 _ (by unfold gS; omega)).trans h9
        · exact (hF1.2 _ (by unfold gS; omega)).trans h10
        · exact hi_slot hp hgx (fun q a b c => hF1.2 q c) h1.2
        · intro i e
          by_cases h7 : i = j
          · rw [h7, va_up_self] at e; cases e
          · rw [va_up_ne _ _ h7] at e
            rw [hsn i h7]
            exact rS i e
        · rw [hF1.1]; exact hle
        · exact hpd.ag (hF1.2 _ (by unfold gS; omega)) (hF1.2 _ (by unfold gS; omega))
        · exact hsc.ag (fun q a b => hF1.2 q (by unfold gS; omega))
        · exact fun q a b => (hF1.2 q (by unfold gS; omega)).trans (hM q a b)
      refine r_aload_n 17 dX6_save_16 rfl rfl rfl ?_
      refine r_getf 20 dX6_save_17 rfl f_X6_23.r (by repeat (first | assumption | exact isBd.o (by assumption) | exact isHp.o (by assumption) | exact isGm.o (by assumption) | exact isPd.o (by assumption) | refine gs_eq ?_ | refine gs_ne (by omega) ?_ | exact is_of (by assumption) | refine gs_is ?_)) rfl ?_
      refine r_iload_n 21 dX6_save_20 rfl rfl ?_
      refine r_gald 22 dX6_save_21 rfl (j) (by repeat (first | assumption | exact isBd.o (by assumption) | exact isHp.o (by assumption) | exact isGm.o (by assumption) | exact isPd.o (by assumption) | refine gs_eq ?_ | refine gs_ne (by omega) ?_ | exact is_of (by assumption) | refine gs_is ?_)) rfl hj (by decide) ?_
      rcases hst : sl j with _ | gx
      · refine r_rfN rfl ?_
        refine r_astore_n (ls1 := [_, _, _]) 23 dX6_save_22 rfl (by decide) rfl rfl rfl ?_
        refine r_aload_n 24 dX6_save_23 rfl rfl rfl ?_
        refine r_ifnonnullN 27 dX6_save_24 rfl ?_
        refine r_new 30 dX6_save_27 rfl n_X6_7 rfl (by decide) (by decide) ?_
        refine r_dup 31 dX6_save_30 rfl rfl ?_
        refine r_callIN (ci := 0) (fs := []) 34 dX6_save_31 rfl (tX1_init (g := w.length) (ga_n rfl) (by rw [List.length_append]; rfl)) l_X6_9 mX1_init rfl rfl (by decide) (Nat.le_of_ble_eq_true rfl) (by decide) (qN fun w1 h1 => ?_)
        have hlen1 : w1.length = w.length + 7 := by rw [h1.1.1, List.length_append]; rfl
        have hG1 : Gr w w1 7 (fun q => q = w.length) := (Gr.gr (Gr.ap Gr.rf) h1.1 (fun q hq e => by omega)).k rfl
        have hA : ∀ q, q < w.length → w1[q]? = w[q]? := fun q a => hG1.2 q a (by omega)
        obtain ⟨k0, hk0⟩ := rk
        have e0 := (hA 0 (by omega)).trans r0
        have e10 := (hA 10 (by omega)).trans r10
        have hgm1 := h1.2.1
        refine r_astore_n (ls1 := [_, _, _]) 35 dX6_save_34 rfl (by decide) rfl rfl rfl ?_
        refine r_aload_n 36 dX6_save_35 rfl rfl rfl ?_
        refine r_getf 39 dX6_save_36 rfl f_X6_23.r (by repeat (first | assumption | exact isBd.o (by assumption) | exact isHp.o (by assumption) | exact isGm.o (by assumption) | exact isPd.o (by assumption) | refine gs_eq ?_ | refine gs_ne (by omega) ?_ | exact is_of (by assumption) | refine gs_is ?_)) rfl ?_
        refine r_iload_n 40 dX6_save_39 rfl rfl ?_
        refine r_aload_n 41 dX6_save_40 rfl rfl rfl ?_
        refine r_gast 42 dX6_save_41 rfl (j) (by repeat (first | assumption | exact isBd.o (by assumption) | exact isHp.o (by assumption) | exact isGm.o (by assumption) | exact isPd.o (by assumption) | refine gs_eq ?_ | refine gs_ne (by omega) ?_ | exact is_of (by assumption) | refine gs_is ?_)) rfl hj (by decide) (by repeat (first | assumption | exact isBd.o (by assumption) | exact isHp.o (by assumption) | exact isGm.o (by assumption) | exact isPd.o (by assumption) | refine gs_eq ?_ | refine gs_ne (by omega) ?_ | exact is_of (by assumption) | refine gs_is ?_)) ?_
        have hB : ∀ q, q < w.length → q ≠ 10 → (w1.set 10 (aG 2 (va_up sl j (some w.length))))[q]? = w[q]? := fun q a b => (List.getElem?_set_ne (by omega)).trans (hA q a)
        refine tail2 _ _ _ (va_up sl j (some w.length)) w.length (by decide) (by decide) upo_s (fun i e => upo_n e) ?_ ?_ ?_ ?_ ?_ ?_ ?_ ?_ ?_ ?_
        · exact isTp.ag ⟨r0, r13, r14, r15⟩ (hB _ (by omega) (by omega)) (hB _ (by omega) (by omega)) (hB _ (by omega) (by omega)) (hB _ (by omega) (by omega))
        · exact isGm.ag rG (fun q a b => hB q (by omega) (by omega))
        · exact (hB _ (by omega) (by omega)).trans r8
        · exact (hB _ (by omega) (by omega)).trans r9
        · exact gs_eq (is_of e10)
        · refine isPl.add (i0 := 6 + j) (sa := cmb st sl) (g := w.length) (G := ((fun _ => -6), (fun _ => 0), 0, (-6), (fun _ => 0), (fun _ => 0), [], 600, 0, 0, 0)) ?_ (by rw [cmb_hi (by omega), Nat.add_sub_cancel_left]; exact hst) (by rw [cmb_hi (by omega), Nat.add_sub_cancel_left]; exact upo_s) (fun i hi => ?_) ⟨k0, hk0⟩ (isGm.sr h1.2 (by omega)) (fun i e => ?_)
          · refine rp.fr (fun q a b => hB q b (by omega)) (by rw [List.length_set, hlen1]; omega)
          · unfold cmb
            split
            · rfl
            · exact upo_n (by omega)
          · obtain ⟨-, Gz, hz, -⟩ := rp.1 i _ e
            have := hz.lt
            omega
        · exact ⟨k0 + 1, by rw [List.length_set, hlen1, hk0]; omega⟩
        · exact rd.ag (hB _ (by omega) (by omega)) (hB _ (by omega) (by omega))
        · exact rs.ag (fun q a b => hB q (by omega) (by omega))
        · exact fun q a b => hB q (by omega) (by omega)
      · refine r_rf rfl ?_
        refine r_astore_n (ls1 := [_, _, _]) 23 dX6_save_22 rfl (by decide) rfl rfl rfl ?_
        refine r_aload_n 24 dX6_save_23 rfl rfl rfl ?_
        refine r_ifnonnull 42 dX6_save_24 (by decide) ?_
        exact tail2 0 0 w sl gx (by decide) (by decide) hst (fun _ _ => rfl) ⟨r0, r13, r14, r15⟩ rg r8 r9 r10 rp rk rd rs (fun _ _ _ => rfl)
    · refine r_bipush (v := (-2)) 15 dX6_save_13 rfl (by decide) ?_
      refine r_iret dX6_save_15 rfl (by decide) (by decide) ?_
      rw [if_neg (by first | exact (fun z => Int32.not_lt.mpr z.1 q1) | exact (fun z => q10 z.2))]
      exact ⟨rfl, rfl⟩

theorem aG_inj {n m : Nat} {f g : Nat → Option Nat} (h : aG n f = aG m g) : f = g := by
  unfold aG at h
  have h1 := Sum.inr.inj (Sum.inr.inj h)
  have h2 := Sum.inl.inj h1
  exact (Prod.mk.inj h2).2
def gsMk (G : GS) : Int32 := G.2.2.2.2.2.2.2.2.1
set_option maxRecDepth 100000 in
theorem tX6_restore {Γ : CT} {w : PW} {f n : Nat → Int32} {mv jp : Int32} {cl lo : Nat → Int32} {ps : List T3} {cs mk qt oc : Int32} {H : List GS} {S : Nat → Option GS} {pf : Nat → Int32} {pn : Nat} {x : Int32} (hr : isRD w (f, n, mv, jp, cl, lo, ps, cs, mk, qt, oc) H S pf pn) : Cl Γ yX6_restore XX6_restore 7 7 252 [.ref 0, .int x] w (if 0 ≤ x ∧ x < 2 then (match S x.toNatClampNeg with | none => rI (-5) w | some G1 => rP (gsMk G1) (toRD w G1 (keepL H (f, n, mv, jp, cl, lo, ps, cs, mk, qt, oc)) S pf pn)) else rI (-2) w) := by
  refine Cl.of (ls := [some (.ref 0), some (.int x), none]) rfl (by decide +kernel) (fun h => by cases h) (Nat.le_of_ble_eq_true rfl) rfl ?_
  obtain ⟨⟨r0, r13, r14, r15⟩, rg, ⟨st, sl, r8, r9, r10, rH, rp, rS, rk⟩, rd, rs⟩ := id hr
  have rG : isGm w 1 f n mv jp cl lo ps cs mk qt oc := rg
  obtain ⟨g1, gb, g5, g6, gl, pfG, gO, g7⟩ := id rG
  have gb0 := gb.1
  have rd0 := rd.1
  refine r_iload_n 1 dX6_restore_0 rfl rfl ?_
  refine r_if_lt 13 4 dX6_restore_1 (by decide) rfl (fun q1 => ?_) (fun q1 => ?_)
  · refine r_bipush (v := (-2)) 15 dX6_restore_13 rfl (by decide) ?_
    refine r_iret dX6_restore_15 rfl (by decide) (by decide) ?_
    rw [if_neg (by first | exact (fun z => Int32.not_lt.mpr z.1 q1) | exact (fun z => q10 z.2))]
    exact ⟨rfl, rfl⟩
  · refine r_iload_n 5 dX6_restore_4 rfl rfl ?_
    refine r_aload_n 6 dX6_restore_5 rfl rfl rfl ?_
    refine r_getf 9 dX6_restore_6 rfl f_X6_23.r (by repeat (first | assumption | exact isBd.o (by assumption) | exact isHp.o (by assumption) | exact isGm.o (by assumption) | exact isPd.o (by assumption) | refine gs_eq ?_ | refine gs_ne (by omega) ?_ | exact is_of (by assumption) | refine gs_is ?_)) rfl ?_
    refine r_alenG 10 dX6_restore_9 rfl (by repeat (first | assumption | exact isBd.o (by assumption) | exact isHp.o (by assumption) | exact isGm.o (by assumption) | exact isPd.o (by assumption) | refine gs_eq ?_ | refine gs_ne (by omega) ?_ | exact is_of (by assumption) | refine gs_is ?_)) ?_
    refine r_icmp_lt 16 13 dX6_restore_10 (by decide) rfl (fun q10 => ?_) (fun q10 => ?_)
    · have hx : 0 ≤ x ∧ x < 2 := ⟨Int32.not_lt.mp q1, q10⟩
      obtain ⟨j, hj, rfl⟩ := slot_ix hx
      have hcl : (nI j).toNatClampNeg = j := nI_clamp (by omega)
      refine r_aload_n 17 dX6_restore_16 rfl rfl rfl ?_
      refine r_getf 20 dX6_restore_17 rfl f_X6_23.r (by repeat (first | assumption | exact isBd.o (by assumption) | exact isHp.o (by assumption) | exact isGm.o (by assumption) | exact isPd.o (by assumption) | refine gs_eq ?_ | refine gs_ne (by omega) ?_ | exact is_of (by assumption) | refine gs_is ?_)) rfl ?_
      refine r_iload_n 21 dX6_restore_20 rfl rfl ?_
      refine r_gald 22 dX6_restore_21 rfl (j) (by repeat (first | assumption | exact isBd.o (by assumption) | exact isHp.o (by assumption) | exact isGm.o (by assumption) | exact isPd.o (by assumption) | refine gs_eq ?_ | refine gs_ne (by omega) ?_ | exact is_of (by assumption) | refine gs_is ?_)) rfl hj (by decide) ?_
      rcases hS : S j with _ | G1
      · refine r_rfN (rS j hS) ?_
        refine r_astore_n (ls1 := [_, _, _]) 23 dX6_restore_22 rfl (by decide) rfl rfl rfl ?_
        refine r_aload_n 24 dX6_restore_23 rfl rfl rfl ?_
        refine r_ifnonnullN 27 dX6_restore_24 rfl ?_
        refine r_bipush (v := (-5)) 29 dX6_restore_27 rfl (by decide) ?_
        refine r_iret dX6_restore_29 rfl (by decide) (by decide) ?_
        rw [if_pos hx, hcl, hS]
        exact ⟨rfl, rfl⟩
      · obtain ⟨gx, x1, x2, ax, x3⟩ := rp.get (i := 6 + j) (G := G1) (by unfold hsL; rw [cmb_hi (by omega), Nat.add_sub_cancel_left]; exact hS)
        rw [cmb_hi (by omega), Nat.add_sub_cancel_left] at x1
        refine r_rf x1 ?_
        refine r_astore_n (ls1 := [_, _, _]) 23 dX6_restore_22 rfl (by decide) rfl rfl rfl ?_
        refine r_aload_n 24 dX6_restore_23 rfl rfl rfl ?_
        refine r_ifnonnull 30 dX6_restore_24 (by decide) ?_
        refine r_aload_n 31 dX6_restore_30 rfl rfl rfl ?_
        refine r_getf 34 dX6_restore_31 rfl f_X6_19.r (by repeat (first | assumption | exact isBd.o (by assumption) | exact isHp.o (by assumption) | exact isGm.o (by assumption) | exact isPd.o (by assumption) | refine gs_eq ?_ | refine gs_ne (by omega) ?_ | exact is_of (by assumption) | refine gs_is ?_)) rfl ?_
        refine r_aload_n 35 dX6_restore_34 rfl rfl rfl ?_
        refine r_getf 38 dX6_restore_35 rfl f_X6_10.r (by repeat (first | assumption | exact isBd.o (by assumption) | exact isHp.o (by assumption) | exact isGm.o (by assumption) | exact isPd.o (by assumption) | refine gs_eq ?_ | refine gs_ne (by omega) ?_ | exact is_of (by assumption) | refine gs_is ?_)) rfl ?_
        refine r_callV 41 dX6_restore_38 rfl (tKeep hr) l_X6_47 mX2_keep rfl (by repeat (first | assumption | exact isBd.o (by assumption) | exact isHp.o (by assumption) | exact isGm.o (by assumption) | exact isPd.o (by assumption) | refine gs_eq ?_ | refine gs_ne (by omega) ?_ | exact is_of (by assumption) | refine gs_is ?_)) rfl (by decide) (Nat.le_of_ble_eq_true rfl) (by decide) (qN fun w1 hk1 => ?_)
        obtain ⟨⟨hr1, hM1⟩, hF1⟩ := hk1
        obtain ⟨⟨r01, r131, r141, r151⟩, rg1, ⟨st1, sl1, r81, r91, r101, rH1, rp1, rS1, rk1⟩, rd1, rs1⟩ := id hr1
        have rG1 : isGm w1 1 f n mv jp cl lo ps cs mk qt oc := rg1
        obtain ⟨g11, gb1, g51, g61, gl1, pfG1, gO1, g71⟩ := id rG1
        have gb01 := gb1.1
        have rd01 := rd1.1
        have hsl : sl1 = sl := aG_inj (Option.some.inj (r101.symm.trans ((hF1 10 (by decide) (by decide) (by decide)).trans r10)))
        obtain ⟨gy, y1, y2, ay, y3⟩ := rp1.get (i := 6 + j) (G := G1) (by unfold hsL; rw [cmb_hi (by omega), Nat.add_sub_cancel_left]; exact hS)
        rw [cmb_hi (by omega), Nat.add_sub_cancel_left, hsl, x1] at y1
        cases y1
        have y20 := y2.1
        refine r_aload_n 42 dX6_restore_41 rfl rfl rfl ?_
        refine r_getf 45 dX6_restore_42 rfl f_X6_10.r (by repeat (first | assumption | exact isBd.o (by assumption) | exact isHp.o (by assumption) | exact isGm.o (by assumption) | exact isPd.o (by assumption) | refine gs_eq ?_ | refine gs_ne (by omega) ?_ | exact is_of (by assumption) | refine gs_is ?_)) rfl ?_
        refine r_aload_n 46 dX6_restore_45 rfl rfl rfl ?_
        refine r_callV0 49 dX6_restore_46 rfl (tX1_copyFrom rG1 y2 (by omega)) l_X6_234 mX1_copyFrom rfl (by repeat (first | assumption | exact isBd.o (by assumption) | exact isHp.o (by assumption) | exact isGm.o (by assumption) | exact isPd.o (by assumption) | refine gs_eq ?_ | refine gs_ne (by omega) ?_ | exact is_of (by assumption) | refine gs_is ?_)) rfl (by decide) (Nat.le_of_ble_eq_true rfl) (by decide) (qN fun w2 k2 => ?_)
        have e0 := (k2.1.2 0 (by unfold gS; omega)).trans r01
        have e1 := k2.2.1
        refine r_aload_n 50 dX6_restore_49 rfl rfl rfl ?_
        refine r_getf 53 dX6_restore_50 rfl f_X6_10.r (by repeat (first | assumption | exact isBd.o (by assumption) | exact isHp.o (by assumption) | exact isGm.o (by assumption) | exact isPd.o (by assumption) | refine gs_eq ?_ | refine gs_ne (by omega) ?_ | exact is_of (by assumption) | refine gs_is ?_)) rfl ?_
        refine r_getf 56 dX6_restore_53 rfl f_X6_191.r (by repeat (first | assumption | exact isBd.o (by assumption) | exact isHp.o (by assumption) | exact isGm.o (by assumption) | exact isPd.o (by assumption) | refine gs_eq ?_ | refine gs_ne (by omega) ?_ | exact is_of (by assumption) | refine gs_is ?_)) rfl ?_
        refine r_iret dX6_restore_56 rfl (by decide) (by decide) ?_
        rw [if_pos hx, hcl, hS]
        exact ⟨rfl, toRD.tr ⟨hr1, hM1⟩ (hr1.game k2.1 k2.2)⟩
    · refine r_bipush (v := (-2)) 15 dX6_restore_13 rfl (by decide) ?_
      refine r_iret dX6_restore_15 rfl (by decide) (by decide) ?_
      rw [if_neg (by first | exact (fun z => Int32.not_lt.mpr z.1 q1) | exact (fun z => q10 z.2))]
      exact ⟨rfl, rfl⟩

