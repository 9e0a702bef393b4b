/-! ===== hops listed ===== -/
theorem isBd.o {w : PW} {b : Nat} {f n : Nat → Int32} {mv jp : Int32} (h : isBd w b f n mv jp) : w[b]? = some (oB 0 [.ref (b + 1), .ref (b + 2), .int mv, .int jp]) := h.1
theorem isHp.o {w : PW} {h : Nat} {l : List HP} (k : isHp w h l) : w[h]? = some (oB 3 [.ref (h + 1), .ref (h + 2), .ref (h + 3), .ref (h + 4), .ref (h + 5), .int (nI l.length)]) := k.2.choose_spec.choose_spec.choose_spec.choose_spec.choose_spec.2.1
def ld (f : Nat → Int32) (s way : Nat) (t : Int32) : Nat → Nat → List HP
  | 0, _ => []
  | n + 1, k => if f (nk s way k) = -6 then (s, nk s way k, way, k, t) :: ld f s way t n (k + 1) else []
def tkO (s way sb : Nat) : Int32 := if 0 < sb then nI (nk s way sb) else -6
def lands (f : Nat → Int32) (s way sb far : Nat) : List HP := ld f s way (tkO s way sb) (far - sb) (sb + 1)
def jAt (f : Nat → Int32) (s way : Nat) : List HP := if 0 < prey f s way then lands f s way (prey f s way) (if isKg (f s) = true then 23 else 2) else []
def mAt (f : Nat → Int32) (s way : Nat) : List HP := if mayG (f s) (nI way) = true then lands f s way 0 (if isKg (f s) = true then 23 else 1) else []
def jSq (f : Nat → Int32) (side jp : Int32) (s : Nat) : List HP := if sdO (f s) = side ∧ (jp = -6 ∨ jp = nI s) then (List.range 4).flatMap (jAt f s) else []
def allJ (f : Nat → Int32) (side jp : Int32) : List HP := (List.range 48).flatMap (jSq f side jp)
def mSq (f : Nat → Int32) (side : Int32) (s : Nat) : List HP := if sdO (f s) = side then (List.range 4).flatMap (mAt f s) else []
def allM (f : Nat → Int32) (side : Int32) : List HP := (List.range 48).flatMap (mSq f side)
def hopsC (f : Nat → Int32) (mv jp : Int32) : List HP := if (allJ f mv jp).length = 0 then allM f mv else allJ f mv jp
theorem fm_s {α : Type} {g : Nat → List α} {i : Nat} : (List.range (i + 1)).flatMap g = (List.range i).flatMap g ++ g i := by
  rw [List.range_succ, List.flatMap_append]
  simp
theorem fm_len {α : Type} {g : Nat → List α} {i : Nat} : ∀ {n : Nat}, i ≤ n → ((List.range i).flatMap g).length ≤ ((List.range n).flatMap g).length
  | 0, h => by rw [Nat.le_zero.mp h]; exact Nat.le_refl _
  | n + 1, h => by
    rcases Nat.lt_or_ge i (n + 1) with h1 | h1
    · rw [fm_s, List.length_append]
      have := fm_len (g := g) (i := i) (n := n) (by omega)
      omega
    · rw [show i = n + 1 by omega]
      exact Nat.le_refl _
theorem isHp.zero {w : PW} {h : Nat} {l : List HP} (k : isHp w h l) : toHp w h [] (w.set h (oB 3 [.ref (h + 1), .ref (h + 2), .ref (h + 3), .ref (h + 4), .ref (h + 5), .int 0])) := by
  obtain ⟨k0, a, b, c, d, e, k1, k2, k3, k4, k5, k6, k7⟩ := k
  exact ⟨Fr.st ⟨by omega, by omega⟩, by simp, a, b, c, d, e, (fun i q h => by simp at h), gs_eq (is_of k2), gs_ne (by omega) k3, gs_ne (by omega) k4, gs_ne (by omega) k5, gs_ne (by omega) k6, gs_ne (by omega) k7⟩
def apH (b h : Nat) : Prop := b + 3 ≤ h ∨ h + 6 ≤ b
theorem apH.hb {b h q : Nat} (k : apH b h) (h1 : b ≤ q) (h2 : q < b + 3) : ¬ hS h q := by
  unfold hS
  unfold apH at k
  omega
theorem nI_z {n : Nat} (hn : n ≤ 192) (h : nI n = 0) : n = 0 := by
  rcases Nat.eq_zero_or_pos n with e | e
  · exact e
  · exact absurd h (nI_ne0 e (by omega))
set_option maxRecDepth 100000 in
theorem tX3_addLandings {Γ : CT} {w : PW} {b h : Nat} {f n : Nat → Int32} {mv jp : Int32} {l : List HP} {s way sb far : Nat} (hb : isBd w b f n mv jp) (hh : isHp w h l) (hap : apH b h) (hs : s < 48) (hw : way < 4) (hsb : sb ≤ far) (hfar : far < 24) (h192 : (l ++ lands f s way sb far).length ≤ 192) : Cl Γ yX3_addLandings XX3_addLandings 2 0 0 [.ref h, .ref b, .int (nI s), .int (nI way), .int (nI sb), .int (nI far)] w (rN (toHp w h (l ++ lands f s way sb far))) := by
  have loop : ∀ (z t : Int32) (m k : Nat) (u : PW) (P : List HP), k + m = far + 1 → P ++ ld f s way t m k = lands f s way sb far → toHp w h (l ++ P) u → Rn Γ XX3_addLandings (rmO 2 0 0) none (FinM (rN (toHp w h (l ++ lands f s way sb far))) 0 0) 0 0 u 38 [some (.ref h), some (.ref b), some (.int (nI s)), some (.int (nI way)), some (.int (nI sb)), some (.int (nI far)), some (.int z), some (.int t), some (.int (nI (nk s way k))), some (.int (nI k))] [] := by
    intro z t m
    induction m with
    | zero =>
      intro k u P hk hP hu
      refine r_iload 40 dX3_addLandings_38 rfl rfl ?_
      refine r_iload 42 dX3_addLandings_40 rfl rfl ?_
      refine r_icmp_gt 83 45 dX3_addLandings_42 (by decide) rfl (fun q42 => ?_) (fun q42 => absurd q42 (fun z => z (nI_lt (by omega) (by omega))))
      refine r_vret dX3_addLandings_83 rfl (by decide) (by decide) ?_
      exact ⟨rfl, by rw [← hP, ld, List.append_nil]; exact hu⟩
    | succ m ih =>
      intro k u P hk hP hu
      have hbu : isBd u b f n mv jp := hb.fr hu.1 (fun q h1 h2 => hap.hb h1 h2)
      have hlen : (l ++ P).length + (ld f s way t (m + 1) k).length ≤ 192 := by
        rw [← List.length_append, List.append_assoc, hP]
        exact h192
      rw [ld] at hP hlen
      refine r_iload 40 dX3_addLandings_38 rfl rfl ?_
      refine r_iload 42 dX3_addLandings_40 rfl rfl ?_
      refine r_icmp_gt 83 45 dX3_addLandings_42 (by decide) rfl (fun q42 => absurd q42 (nI_nlt (by omega) (by omega))) (fun q42 => ?_)
      refine r_aload_n 46 dX3_addLandings_45 rfl rfl rfl ?_
      refine r_iload 48 dX3_addLandings_46 rfl rfl ?_
      refine r_callV0 51 dX3_addLandings_48 rfl (tX0_pAt hbu (nk_lt hs)) l_X3_61 mX0_pieceAt rfl (by repeat (first | assumption | exact isBd.o (by assumption) | exact isHp.o (by assumption) | refine gs_eq ?_ | refine gs_ne (by omega) ?_ | exact is_of (by assumption) | refine gs_is ?_)) rfl (by decide) (Nat.le_of_ble_eq_true rfl) (by decide) (qI ?_)
      refine r_bipush (v := (-6)) 53 dX3_addLandings_51 rfl (by decide) ?_
      refine r_icmp_ne 83 56 dX3_addLandings_53 (by decide) rfl (fun q53 => ?_) (fun q53 => ?_)
      · refine r_vret dX3_addLandings_83 rfl (by decide) (by decide) ?_
        exact ⟨rfl, by rw [← hP, if_neg q53, List.append_nil]; exact hu⟩
      · refine r_aload_n 57 dX3_addLandings_56 rfl rfl rfl ?_
        refine r_iload_n 58 dX3_addLandings_57 rfl rfl ?_
        refine r_iload 60 dX3_addLandings_58 rfl rfl ?_
        refine r_iload_n 61 dX3_addLandings_60 rfl rfl ?_
        refine r_iload 63 dX3_addLandings_61 rfl rfl ?_
        refine r_iload 65 dX3_addLandings_63 rfl rfl ?_
        refine r_callV0 68 dX3_addLandings_65 rfl (tX3_add (q := (s, nk s way k, way, k, t)) hu.2 (by rw [if_pos q53, List.length_cons] at hlen; omega)) l_X3_86 mX3_add rfl hu.2.2.choose_spec.choose_spec.choose_spec.choose_spec.choose_spec.2.1 rfl (by decide) (Nat.le_of_ble_eq_true rfl) (by decide) (qN fun u1 hu1 => ?_)
        refine r_iload 70 dX3_addLandings_68 rfl rfl ?_
        refine r_iload_n 71 dX3_addLandings_70 rfl rfl ?_
        refine r_iconst (v := nI 1) 72 dX3_addLandings_71 rfl (by decide) ?_
        refine r_callSN0 75 dX3_addLandings_72 rfl (tX6_sq1 (nk_lt hs) hw) l_X3_82 mX6_squareAfter rfl (by decide) (Nat.le_of_ble_eq_true rfl) (by decide) (qI ?_)
        refine r_istore (ls1 := [_, _, _, _, _, _, _, _, _, _]) 77 dX3_addLandings_75 rfl (by decide) rfl rfl ?_
        refine r_iinc (ls1 := [_, _, _, _, _, _, _, _, _, _]) 80 dX3_addLandings_77 rfl (by decide) rfl rfl (nI_1 k) rfl ?_
        refine r_goto 38 dX3_addLandings_80 (by decide) ?_
        exact ih (k + 1) u1 (P ++ [(s, nk s way k, way, k, t)]) (by omega) (by rw [← hP, if_pos q53, List.append_assoc]; rfl) (by rw [← List.append_assoc]; exact hu.tr hu1)
  refine Cl.of (ls := [some (.ref h), some (.ref b), some (.int (nI s)), some (.int (nI way)), some (.int (nI sb)), some (.int (nI far)), none, none, none, none]) rfl (by decide +kernel) (fun h => by cases h) (Nat.le_of_ble_eq_true rfl) rfl ?_
  refine r_iload_n 1 dX3_addLandings_0 rfl rfl ?_
  refine r_iload_n 2 dX3_addLandings_1 rfl rfl ?_
  refine r_iload 4 dX3_addLandings_2 rfl rfl ?_
  refine r_callSN0 7 dX3_addLandings_4 rfl (tX6_sq hs hw (by omega)) l_X3_82 mX6_squareAfter rfl (by decide) (Nat.le_of_ble_eq_true rfl) (by decide) (qI ?_)
  refine r_istore (ls1 := [_, _, _, _, _, _, _, _, _, _]) 9 dX3_addLandings_7 rfl (by decide) rfl rfl ?_
  refine r_iload 11 dX3_addLandings_9 rfl rfl ?_
  refine r_if_le 19 14 dX3_addLandings_11 (by decide) rfl (fun q11 => ?_) (fun q11 => ?_)
  · refine r_bipush (v := (-6)) 21 dX3_addLandings_19 rfl (by decide) ?_
    refine r_istore (ls1 := [_, _, _, _, _, _, _, _, _, _]) 23 dX3_addLandings_21 rfl (by decide) rfl rfl ?_
    refine r_iload 25 dX3_addLandings_23 rfl rfl ?_
    refine r_iload_n 26 dX3_addLandings_25 rfl rfl ?_
    refine r_iconst (v := nI 1) 27 dX3_addLandings_26 rfl (by decide) ?_
    refine r_callSN0 30 dX3_addLandings_27 rfl (tX6_sq1 (nk_lt hs) hw) l_X3_82 mX6_squareAfter rfl (by decide) (Nat.le_of_ble_eq_true rfl) (by decide) (qI ?_)
    refine r_istore (ls1 := [_, _, _, _, _, _, _, _, _, _]) 32 dX3_addLandings_30 rfl (by decide) rfl rfl ?_
    refine r_iload 34 dX3_addLandings_32 rfl rfl ?_
    refine r_iconst (v := nI 1) 35 dX3_addLandings_34 rfl (by decide) ?_
    refine r_iadd 36 dX3_addLandings_35 rfl ?_
    rw [nI_add]
    refine r_istore (ls1 := [_, _, _, _, _, _, _, _, _, _]) 38 dX3_addLandings_36 rfl (by decide) rfl rfl ?_
    first | exact loop _ _ (far - sb) (sb + 1) w [] (by omega) (by rw [List.nil_append, lands, tkO, if_pos (pos_n q11)]) (by rw [List.append_nil]; exact ⟨Fr.rf, hh⟩) | exact loop _ _ (far - sb) (sb + 1) w [] (by omega) (by rw [List.nil_append, lands, tkO, if_neg (npos_n (by omega) q11)]) (by rw [List.append_nil]; exact ⟨Fr.rf, hh⟩)
  · refine r_iload 16 dX3_addLandings_14 rfl rfl ?_
    refine r_goto 21 dX3_addLandings_16 (by decide) ?_
    refine r_istore (ls1 := [_, _, _, _, _, _, _, _, _, _]) 23 dX3_addLandings_21 rfl (by decide) rfl rfl ?_
    refine r_iload 25 dX3_addLandings_23 rfl rfl ?_
    refine r_iload_n 26 dX3_addLandings_25 rfl rfl ?_
    refine r_iconst (v := nI 1) 27 dX3_addLandings_26 rfl (by decide) ?_
    refine r_callSN0 30 dX3_addLandings_27 rfl (tX6_sq1 (nk_lt hs) hw) l_X3_82 mX6_squareAfter rfl (by decide) (Nat.le_of_ble_eq_true rfl) (by decide) (qI ?_)
    refine r_istore (ls1 := [_, _, _, _, _, _, _, _, _, _]) 32 dX3_addLandings_30 rfl (by decide) rfl rfl ?_
    refine r_iload 34 dX3_addLandings_32 rfl rfl ?_
    refine r_iconst (v := nI 1) 35 dX3_addLandings_34 rfl (by decide) ?_
    refine r_iadd 36 dX3_addLandings_35 rfl ?_
    rw [nI_add]
    refine r_istore (ls1 := [_, _, _, _, _, _, _, _, _, _]) 38 dX3_addLandings_36 rfl (by decide) rfl rfl ?_
    first | exact loop _ _ (far - sb) (sb + 1) w [] (by omega) (by rw [List.nil_append, lands, tkO, if_pos (pos_n q11)]) (by rw [List.append_nil]; exact ⟨Fr.rf, hh⟩) | exact loop _ _ (far - sb) (sb + 1) w [] (by omega) (by rw [List.nil_append, lands, tkO, if_neg (npos_n (by omega) q11)]) (by rw [List.append_nil]; exact ⟨Fr.rf, hh⟩)

theorem prey_far {f : Nat → Int32} {s way : Nat} (h : prey f s way ≤ 22) (h0 : 0 < prey f s way) : prey f s way ≤ (if isKg (f s) = true then 23 else 2) := by
  split
  · omega
  · next hk =>
    have h1 : prey f s way ≤ feK f s way := by
      unfold prey
      split
      · split <;> omega
      · omega
    have h2 : feK f s way = 1 := by
      unfold feK
      rw [if_neg hk]
      rfl
    omega
set_option maxRecDepth 100000 in
theorem tX3_listJumps {Γ : CT} {w : PW} {b h : Nat} {f n : Nat → Int32} {mv jp : Int32} {l : List HP} {side cj : Int32} (hb : isBd w b f n mv jp) (hh : isHp w h l) (hap : apH b h) (h192 : (allJ f side cj).length ≤ 192) : Cl Γ yX3_listJumps XX3_listJumps 3 0 0 [.ref h, .ref b, .int side, .int cj] w (rN (toHp w h (allJ f side cj))) := by
  obtain ⟨b0, b1, b2⟩ := id hb
  obtain ⟨hl, ca, cb, cc, cd, ce, hO, h0, h1, h2, h3, h4, h5⟩ := id hh
  have inner : ∀ (s far : Nat) (pre : List HP), s < 48 → far = (if isKg (f s) = true then 23 else 2) → (pre ++ (List.range 4).flatMap (jAt f s)).length ≤ 192 → (∀ (u : PW) x5 x6 x7 x8, toHp w h (pre ++ (List.range 4).flatMap (jAt f s)) u → nl x5 = true → nl x6 = true → nl x7 = true → nl x8 = true → Rn Γ XX3_listJumps (rmO 3 0 0) none (FinM (rN (toHp w h (allJ f side cj))) 0 0) 0 0 u 106 [some (.ref h), some (.ref b), some (.int side), some (.int cj), some (.int (nI s)), x5, x6, x7, x8] []) → ∀ (m i : Nat) (u : PW) (x8 : Option Value), i + m = 4 → nl x8 = true → toHp w h (pre ++ (List.range i).flatMap (jAt f s)) u → Rn Γ XX3_listJumps (rmO 3 0 0) none (FinM (rN (toHp w h (allJ f side cj))) 0 0) 0 0 u 66 [some (.ref h), some (.ref b), some (.int side), some (.int cj), some (.int (nI s)), some (.int (f s)), some (.int (nI far)), some (.int (nI i)), x8] [] := by
    intro s far pre hs hfar hlen kk m
    induction m with
    | zero =>
      intro i u x8 hi e8 hu
      have h4 : i = 4 := by omega
      subst h4
      refine r_iload 68 dX3_listJumps_66 rfl rfl ?_
      refine r_iconst (v := nI 4) 69 dX3_listJumps_68 rfl (by decide) ?_
      refine r_icmp_ge 106 72 dX3_listJumps_69 (by decide) rfl (fun q69 => ?_) (fun q69 => absurd q69 (fun z => z (nI_le (by omega) (by omega))))
      exact kk u _ _ _ _ hu rfl rfl rfl e8
    | succ m ih =>
      intro i u x8 hi e8 hu
      have hbu : isBd u b f n mv jp := hb.fr hu.1 (fun q h1 h2 => hap.hb h1 h2)
      have hp22 := prey_le f s i
      have hlen2 : (pre ++ (List.range i).flatMap (jAt f s)).length + (jAt f s i).length ≤ 192 := by
        have h9 := fm_len (g := jAt f s) (i := i + 1) (n := 4) (by omega)
        rw [fm_s, List.length_append] at h9
        rw [List.length_append] at hlen ⊢
        omega
      refine r_iload 68 dX3_listJumps_66 rfl rfl ?_
      refine r_iconst (v := nI 4) 69 dX3_listJumps_68 rfl (by decide) ?_
      refine r_icmp_ge 106 72 dX3_listJumps_69 (by decide) rfl (fun q69 => absurd q69 (nI_ge (by omega) (by omega))) (fun q69 => ?_)
      refine r_aload_n 73 dX3_listJumps_72 rfl rfl rfl ?_
      refine r_iload 75 dX3_listJumps_73 rfl rfl ?_
      refine r_iload 77 dX3_listJumps_75 rfl rfl ?_
      refine r_callV0 80 dX3_listJumps_77 rfl (tX0_stepsToPrey hbu hs (by omega)) l_X3_70 mX0_stepsToPrey rfl (by repeat (first | assumption | exact isBd.o (by assumption) | exact isHp.o (by assumption) | refine gs_eq ?_ | refine gs_ne (by omega) ?_ | exact is_of (by assumption) | refine gs_is ?_)) rfl (by decide) (Nat.le_of_ble_eq_true rfl) (by decide) (qI ?_)
      refine r_istore (ls1 := [_, _, _, _, _, _, _, _, _]) 82 dX3_listJumps_80 rfl (by decide) rfl rfl ?_
      refine r_iload 84 dX3_listJumps_82 rfl rfl ?_
      refine r_if_le 100 87 dX3_listJumps_84 (by decide) rfl (fun q84 => ?_) (fun q84 => ?_)
      · refine r_iinc (ls1 := [_, _, _, _, _, _, _, _, _]) 103 dX3_listJumps_100 rfl (by decide) rfl rfl (nI_1 i) rfl ?_
        refine r_goto 66 dX3_listJumps_103 (by decide) ?_
        first | exact ih (i + 1) u1 _ (by omega) rfl (by rw [fm_s, ← List.append_assoc, jAt, if_pos (pos_n q84), ← hfar]; exact hu.tr hu1) | exact ih (i + 1) u _ (by omega) rfl (by rw [fm_s, jAt, if_neg (npos_n (by omega) q84), List.append_nil]; exact hu)
      · refine r_aload_n 88 dX3_listJumps_87 rfl rfl rfl ?_
        refine r_aload_n 89 dX3_listJumps_88 rfl rfl rfl ?_
        refine r_iload 91 dX3_listJumps_89 rfl rfl ?_
        refine r_iload 93 dX3_listJumps_91 rfl rfl ?_
        refine r_iload 95 dX3_listJumps_93 rfl rfl ?_
        refine r_iload 97 dX3_listJumps_95 rfl rfl ?_
        refine r_callV0 100 dX3_listJumps_97 rfl (tX3_addLandings hbu hu.2 hap hs (by omega) (by have := prey_far hp22 (pos_n q84); subst hfar; exact this) (by subst hfar; split <;> decide) (by rw [jAt, if_pos (pos_n q84), ← hfar] at hlen2; rw [List.length_append]; omega)) l_X3_74 mX3_addLandings rfl hu.2.2.choose_spec.choose_spec.choose_spec.choose_spec.choose_spec.2.1 rfl (by decide) (Nat.le_of_ble_eq_true rfl) (by decide) (qN fun u1 hu1 => ?_)
        refine r_iinc (ls1 := [_, _, _, _, _, _, _, _, _]) 103 dX3_listJumps_100 rfl (by decide) rfl rfl (nI_1 i) rfl ?_
        refine r_goto 66 dX3_listJumps_103 (by decide) ?_
        first | exact ih (i + 1) u1 _ (by omega) rfl (by rw [fm_s, ← List.append_assoc, jAt, if_pos (pos_n q84), ← hfar]; exact hu.tr hu1) | exact ih (i + 1) u _ (by omega) rfl (by rw [fm_s, jAt, if_neg (npos_n (by omega) q84), List.append_nil]; exact hu)
  have outer : ∀ (m i : Nat) (u : PW) (x5 x6 x7 x8 : Option Value), i + m = 48 → (toHp w h ((List.range i).flatMap (jSq f side cj)) u) → (nl x5 = true) → (nl x6 = true) → (nl x7 = true) → (nl x8 = true) → Rn Γ XX3_listJumps (rmO 3 0 0) none (FinM (rN (toHp w h (allJ f side cj))) 0 0) 0 0 u 8 [some (.ref h), some (.ref b), some (.int side), some (.int cj), some (.int (nI i)), x5, x6, x7, x8] [] := by
    intro m
    induction m with
    | zero =>
      intro i u x5 x6 x7 x8 hi hu e5 e6 e7 e8
      have h4 : i = 48 := by omega
      subst h4
      refine r_iload 10 dX3_listJumps_8 rfl rfl ?_
      refine r_bipush (v := nI 48) 12 dX3_listJumps_10 rfl (by decide) ?_
      refine r_icmp_ge 112 15 dX3_listJumps_12 (by decide) rfl (fun q12 => ?_) (fun q12 => absurd q12 (fun z => z (nI_le (by omega) (by omega))))
      refine r_vret dX3_listJumps_112 rfl (by decide) (by decide) ?_
      exact ⟨rfl, hu⟩
    | succ m ih =>
      intro i u x5 x6 x7 x8 hi hu e5 e6 e7 e8
      have hbu : isBd u b f n mv jp := hb.fr hu.1 (fun q h1 h2 => hap.hb h1 h2)
      have hlen : ((List.range i).flatMap (jSq f side cj) ++ jSq f side cj i).length ≤ 192 := by
        rw [← fm_s]
        exact Nat.le_trans (fm_len (by omega)) h192
      refine r_iload 10 dX3_listJumps_8 rfl rfl ?_
      refine r_bipush (v := nI 48) 12 dX3_listJumps_10 rfl (by decide) ?_
      refine r_icmp_ge 112 15 dX3_listJumps_12 (by decide) rfl (fun q12 => absurd q12 (nI_ge (by omega) (by omega))) (fun q12 => ?_)
      refine r_aload_n 16 dX3_listJumps_15 rfl rfl rfl ?_
      refine r_iload 18 dX3_listJumps_16 rfl rfl ?_
      refine r_callV0 21 dX3_listJumps_18 rfl (tX0_pAt hbu (by omega)) l_X3_61 mX0_pieceAt rfl (by repeat (first | assumption | exact isBd.o (by assumption) | exact isHp.o (by assumption) | refine gs_eq ?_ | refine gs_ne (by omega) ?_ | exact is_of (by assumption) | refine gs_is ?_)) rfl (by decide) (Nat.le_of_ble_eq_true rfl) (by decide) (qI ?_)
      refine r_istore (ls1 := [_, _, _, _, _, _, _, _, _]) 23 dX3_listJumps_21 rfl (by decide) rfl rfl ?_
      refine r_iload 25 dX3_listJumps_23 rfl rfl ?_
      refine r_callSN0 28 dX3_listJumps_25 rfl (tX6_sideOf) l_X3_64 mX6_sideOf rfl (by decide) (Nat.le_of_ble_eq_true rfl) (by decide) (qI ?_)
      refine r_iload_n 29 dX3_listJumps_28 rfl rfl ?_
      refine r_icmp_ne 106 32 dX3_listJumps_29 (by decide) rfl (fun q29 => ?_) (fun q29 => ?_)
      · refine r_iinc (ls1 := [_, _, _, _, _, _, _, _, _]) 109 dX3_listJumps_106 rfl (by decide) rfl rfl (nI_1 i) rfl ?_
        refine r_goto 8 dX3_listJumps_109 (by decide) ?_
        exact ih (i + 1) u _ _ _ _ (by omega) (by rw [fm_s, show jSq f side cj i = [] by unfold jSq; rw [if_neg]; first | exact (fun z => q29 z.1) | exact (fun z => z.2.elim q35 q41), List.append_nil]; exact hu) (by first | rfl | assumption) e6 e7 e8
      · refine r_iload_n 33 dX3_listJumps_32 rfl rfl ?_
        refine r_bipush (v := (-6)) 35 dX3_listJumps_33 rfl (by decide) ?_
        refine r_icmp_eq 47 38 dX3_listJumps_35 (by decide) rfl (fun q35 => ?_) (fun q35 => ?_)
        · refine r_iload 49 dX3_listJumps_47 rfl rfl ?_
          refine r_callSN0 52 dX3_listJumps_49 rfl (tX6_isKing) l_X3_67 mX6_isKing rfl (by decide) (Nat.le_of_ble_eq_true rfl) (by decide) (qI ?_)
          refine r_if_eq 60 55 dX3_listJumps_52 (by decide) rfl (fun q52 => ?_) (fun q52 => ?_)
          · refine r_iconst (v := nI 2) 61 dX3_listJumps_60 rfl (by decide) ?_
            refine r_istore (ls1 := [_, _, _, _, _, _, _, _, _]) 63 dX3_listJumps_61 rfl (by decide) rfl rfl ?_
            refine r_iconst (v := nI 0) 64 dX3_listJumps_63 rfl (by decide) ?_
            refine r_istore (ls1 := [_, _, _, _, _, _, _, _, _]) 66 dX3_listJumps_64 rfl (by decide) rfl rfl ?_
            have hj : jSq f side cj i = (List.range 4).flatMap (jAt f i) := by
              unfold jSq
              rw [if_pos]
              exact ⟨q29, by first | exact Or.inl q35 | exact Or.inr q41⟩
            rw [hj] at hlen
            refine inner i _ _ (by omega) (by first | (rw [if_pos (ne_f q52)]) | (rw [if_neg (eq_f q52)])) hlen (fun u1 x5 x6 x7 x8 hu1 e5 e6 e7 e8 => ?_) 4 0 u _ (by omega) e8 (by rw [show (List.range 0).flatMap (jAt f i) = [] from rfl, List.append_nil]; exact hu)
            refine r_iinc (ls1 := [_, _, _, _, _, _, _, _, _]) 109 dX3_listJumps_106 rfl (by decide) rfl rfl (nI_1 i) rfl ?_
            refine r_goto 8 dX3_listJumps_109 (by decide) ?_
            exact ih (i + 1) u1 _ _ _ _ (by omega) (by rw [fm_s, hj]; exact hu1) e5 e6 e7 e8
          · refine r_bipush (v := nI 23) 57 dX3_listJumps_55 rfl (by decide) ?_
            refine r_goto 61 dX3_listJumps_57 (by decide) ?_
            refine r_istore (ls1 := [_, _, _, _, _, _, _, _, _]) 63 dX3_listJumps_61 rfl (by decide) rfl rfl ?_
            refine r_iconst (v := nI 0) 64 dX3_listJumps_63 rfl (by decide) ?_
            refine r_istore (ls1 := [_, _, _, _, _, _, _, _, _]) 66 dX3_listJumps_64 rfl (by decide) rfl rfl ?_
            have hj : jSq f side cj i = (List.range 4).flatMap (jAt f i) := by
              unfold jSq
              rw [if_pos]
              exact ⟨q29, by first | exact Or.inl q35 | exact Or.inr q41⟩
            rw [hj] at hlen
            refine inner i _ _ (by omega) (by first | (rw [if_pos (ne_f q52)]) | (rw [if_neg (eq_f q52)])) hlen (fun u1 x5 x6 x7 x8 hu1 e5 e6 e7 e8 => ?_) 4 0 u _ (by omega) e8 (by rw [show (List.range 0).flatMap (jAt f i) = [] from rfl, List.append_nil]; exact hu)
            refine r_iinc (ls1 := [_, _, _, _, _, _, _, _, _]) 109 dX3_listJumps_106 rfl (by decide) rfl rfl (nI_1 i) rfl ?_
            refine r_goto 8 dX3_listJumps_109 (by decide) ?_
            exact ih (i + 1) u1 _ _ _ _ (by omega) (by rw [fm_s, hj]; exact hu1) e5 e6 e7 e8
        · refine r_iload_n 39 dX3_listJumps_38 rfl rfl ?_
          refine r_iload 41 dX3_listJumps_39 rfl rfl ?_
          refine r_icmp_eq 47 44 dX3_listJumps_41 (by decide) rfl (fun q41 => ?_) (fun q41 => ?_)
          · refine r_iload 49 dX3_listJumps_47 rfl rfl ?_
            refine r_callSN0 52 dX3_listJumps_49 rfl (tX6_isKing) l_X3_67 mX6_isKing rfl (by decide) (Nat.le_of_ble_eq_true rfl) (by decide) (qI ?_)
            refine r_if_eq 60 55 dX3_listJumps_52 (by decide) rfl (fun q52 => ?_) (fun q52 => ?_)
            · refine r_iconst (v := nI 2) 61 dX3_listJumps_60 rfl (by decide) ?_
              refine r_istore (ls1 := [_, _, _, _, _, _, _, _, _]) 63 dX3_listJumps_61 rfl (by decide) rfl rfl ?_
              refine r_iconst (v := nI 0) 64 dX3_listJumps_63 rfl (by decide) ?_
              refine r_istore (ls1 := [_, _, _, _, _, _, _, _, _]) 66 dX3_listJumps_64 rfl (by decide) rfl rfl ?_
              have hj : jSq f side cj i = (List.range 4).flatMap (jAt f i) := by
                unfold jSq
                rw [if_pos]
                exact ⟨q29, by first | exact Or.inl q35 | exact Or.inr q41⟩
              rw [hj] at hlen
              refine inner i _ _ (by omega) (by first | (rw [if_pos (ne_f q52)]) | (rw [if_neg (eq_f q52)])) hlen (fun u1 x5 x6 x7 x8 hu1 e5 e6 e7 e8 => ?_) 4 0 u _ (by omega) e8 (by rw [show (List.range 0).flatMap (jAt f i) = [] from rfl, List.append_nil]; exact hu)
              refine r_iinc (ls1 := [_, _, _, _, _, _, _, _, _]) 109 dX3_listJumps_106 rfl (by decide) rfl rfl (nI_1 i) rfl ?_
              refine r_goto 8 dX3_listJumps_109 (by decide) ?_
              exact ih (i + 1) u1 _ _ _ _ (by omega) (by rw [fm_s, hj]; exact hu1) e5 e6 e7 e8
            · refine r_bipush (v := nI 23) 57 dX3_listJumps_55 rfl (by decide) ?_
              refine r_goto 61 dX3_listJumps_57 (by decide) ?_
              refine r_istore (ls1 := [_, _, _, _, _, _, _, _, _]) 63 dX3_listJumps_61 rfl (by decide) rfl rfl ?_
              refine r_iconst (v := nI 0) 64 dX3_listJumps_63 rfl (by decide) ?_
              refine r_istore (ls1 := [_, _, _, _, _, _, _, _, _]) 66 dX3_listJumps_64 rfl (by decide) rfl rfl ?_
              have hj : jSq f side cj i = (List.range 4).flatMap (jAt f i) := by
                unfold jSq
                rw [if_pos]
                exact ⟨q29, by first | exact Or.inl q35 | exact Or.inr q41⟩
              rw [hj] at hlen
              refine inner i _ _ (by omega) (by first | (rw [if_pos (ne_f q52)]) | (rw [if_neg (eq_f q52)])) hlen (fun u1 x5 x6 x7 x8 hu1 e5 e6 e7 e8 => ?_) 4 0 u _ (by omega) e8 (by rw [show (List.range 0).flatMap (jAt f i) = [] from rfl, List.append_nil]; exact hu)
              refine r_iinc (ls1 := [_, _, _, _, _, _, _, _, _]) 109 dX3_listJumps_106 rfl (by decide) rfl rfl (nI_1 i) rfl ?_
              refine r_goto 8 dX3_listJumps_109 (by decide) ?_
              exact ih (i + 1) u1 _ _ _ _ (by omega) (by rw [fm_s, hj]; exact hu1) e5 e6 e7 e8
          · refine r_goto 106 dX3_listJumps_44 (by decide) ?_
            refine r_iinc (ls1 := [_, _, _, _, _, _, _, _, _]) 109 dX3_listJumps_106 rfl (by decide) rfl rfl (nI_1 i) rfl ?_
            refine r_goto 8 dX3_listJumps_109 (by decide) ?_
            exact ih (i + 1) u _ _ _ _ (by omega) (by rw [fm_s, show jSq f side cj i = [] by unfold jSq; rw [if_neg]; first | exact (fun z => q29 z.1) | exact (fun z => z.2.elim q35 q41), List.append_nil]; exact hu) (by first | rfl | assumption) e6 e7 e8
  refine Cl.of (ls := [some (.ref h), some (.ref b), some (.int side), some (.int cj), none, none, none, none, none]) rfl (by decide +kernel) (fun h => by cases h) (Nat.le_of_ble_eq_true rfl) rfl ?_
  refine r_aload_n 1 dX3_listJumps_0 rfl rfl rfl ?_
  refine r_iconst (v := 0) 2 dX3_listJumps_1 rfl (by decide) ?_
  refine r_putf (fs1 := [_, _, _, _, _, _]) 5 dX3_listJumps_2 rfl f_X3_27 (by repeat (first | assumption | exact isBd.o (by assumption) | exact isHp.o (by assumption) | refine gs_eq ?_ | refine gs_ne (by omega) ?_ | exact is_of (by assumption) | refine gs_is ?_)) rfl (by simp only [List.length_cons, List.length_nil]; omega) rfl ?_
  refine r_iconst (v := nI 0) 6 dX3_listJumps_5 rfl (by decide) ?_
  refine r_istore (ls1 := [_, _, _, _, _, _, _, _, _]) 8 dX3_listJumps_6 rfl (by decide) rfl rfl ?_
  exact outer 48 0 _ _ _ _ _ (by omega) hh.zero rfl rfl rfl rfl

set_option maxRecDepth 100000 in
theorem tX3_listPlainHops {Γ : CT} {w : PW} {b h : Nat} {f n : Nat → Int32} {mv jp : Int32} {l : List HP} (hb : isBd w b f n mv jp) (hh : isHp w h l) (hap : apH b h) (h192 : (allM f mv).length ≤ 192) : Cl Γ yX3_listPlainHops XX3_listPlainHops 3 0 0 [.ref h, .ref b] w (rN (toHp w h (allM f mv))) := by
  obtain ⟨b0, b1, b2⟩ := id hb
  obtain ⟨hl, ca, cb, cc, cd, ce, hO, h0, h1, h2, h3, h4, h5⟩ := id hh
  have inner : ∀ (s far : Nat) (pre : List HP), s < 48 → far = (if isKg (f s) = true then 23 else 1) → (pre ++ (List.range 4).flatMap (mAt f s)).length ≤ 192 → (∀ (u : PW) x3 x4 x5, toHp w h (pre ++ (List.range 4).flatMap (mAt f s)) u → nl x3 = true → nl x4 = true → nl x5 = true → Rn Γ XX3_listPlainHops (rmO 3 0 0) none (FinM (rN (toHp w h (allM f mv))) 0 0) 0 0 u 83 [some (.ref h), some (.ref b), some (.int (nI s)), x3, x4, x5] []) → ∀ (m i : Nat) (u : PW), i + m = 4 → toHp w h (pre ++ (List.range i).flatMap (mAt f s)) u → Rn Γ XX3_listPlainHops (rmO 3 0 0) none (FinM (rN (toHp w h (allM f mv))) 0 0) 0 0 u 51 [some (.ref h), some (.ref b), some (.int (nI s)), some (.int (f s)), some (.int (nI far)), some (.int (nI i))] [] := by
    intro s far pre hs hfar hlen kk m
    induction m with
    | zero =>
      intro i u hi hu
      have h4 : i = 4 := by omega
      subst h4
      refine r_iload 53 dX3_listPlainHops_51 rfl rfl ?_
      refine r_iconst (v := nI 4) 54 dX3_listPlainHops_53 rfl (by decide) ?_
      refine r_icmp_ge 83 57 dX3_listPlainHops_54 (by decide) rfl (fun q54 => ?_) (fun q54 => absurd q54 (fun z => z (nI_le (by omega) (by omega))))
      exact kk u _ _ _ hu rfl rfl rfl
    | succ m ih =>
      intro i u hi hu
      have hbu : isBd u b f n mv jp := hb.fr hu.1 (fun q h1 h2 => hap.hb h1 h2)
      have hlen2 : (pre ++ (List.range i).flatMap (mAt f s)).length + (mAt f s i).length ≤ 192 := by
        have h9 := fm_len (g := mAt f s) (i := i + 1) (n := 4) (by omega)
        rw [fm_s, List.length_append] at h9
        rw [List.length_append] at hlen ⊢
        omega
      refine r_iload 53 dX3_listPlainHops_51 rfl rfl ?_
      refine r_iconst (v := nI 4) 54 dX3_listPlainHops_53 rfl (by decide) ?_
      refine r_icmp_ge 83 57 dX3_listPlainHops_54 (by decide) rfl (fun q54 => absurd q54 (nI_ge (by omega) (by omega))) (fun q54 => ?_)
      refine r_iload_n 58 dX3_listPlainHops_57 rfl rfl ?_
      refine r_iload 60 dX3_listPlainHops_58 rfl rfl ?_
      refine r_callSN0 63 dX3_listPlainHops_60 rfl (tX6_mayGo) l_X3_78 mX6_mayGo rfl (by decide) (Nat.le_of_ble_eq_true rfl) (by decide) (qI ?_)
      refine r_if_eq 77 66 dX3_listPlainHops_63 (by decide) rfl (fun q63 => ?_) (fun q63 => ?_)
      · refine r_iinc (ls1 := [_, _, _, _, _, _]) 80 dX3_listPlainHops_77 rfl (by decide) rfl rfl (nI_1 i) rfl ?_
        refine r_goto 51 dX3_listPlainHops_80 (by decide) ?_
        first | exact ih (i + 1) u1 (by omega) (by rw [fm_s, ← List.append_assoc, mAt, if_pos (ne_f q63), ← hfar]; exact hu.tr hu1) | exact ih (i + 1) u (by omega) (by rw [fm_s, mAt, if_neg (eq_f q63), List.append_nil]; exact hu)
      · refine r_aload_n 67 dX3_listPlainHops_66 rfl rfl rfl ?_
        refine r_aload_n 68 dX3_listPlainHops_67 rfl rfl rfl ?_
        refine r_iload_n 69 dX3_listPlainHops_68 rfl rfl ?_
        refine r_iload 71 dX3_listPlainHops_69 rfl rfl ?_
        refine r_iconst (v := nI 0) 72 dX3_listPlainHops_71 rfl (by decide) ?_
        refine r_iload 74 dX3_listPlainHops_72 rfl rfl ?_
        refine r_callV0 77 dX3_listPlainHops_74 rfl (tX3_addLandings hbu hu.2 hap hs (by omega) (Nat.zero_le _) (by subst hfar; split <;> decide) (by rw [mAt, if_pos (ne_f q63), ← hfar] at hlen2; rw [List.length_append]; omega)) l_X3_74 mX3_addLandings rfl hu.2.2.choose_spec.choose_spec.choose_spec.choose_spec.choose_spec.2.1 rfl (by decide) (Nat.le_of_ble_eq_true rfl) (by decide) (qN fun u1 hu1 => ?_)
        refine r_iinc (ls1 := [_, _, _, _, _, _]) 80 dX3_listPlainHops_77 rfl (by decide) rfl rfl (nI_1 i) rfl ?_
        refine r_goto 51 dX3_listPlainHops_80 (by decide) ?_
        first | exact ih (i + 1) u1 (by omega) (by rw [fm_s, ← List.append_assoc, mAt, if_pos (ne_f q63), ← hfar]; exact hu.tr hu1) | exact ih (i + 1) u (by omega) (by rw [fm_s, mAt, if_neg (eq_f q63), List.append_nil]; exact hu)
  have outer : ∀ (m i : Nat) (u : PW) (x3 x4 x5 : Option Value), i + m = 48 → (toHp w h ((List.range i).flatMap (mSq f mv)) u) → (nl x3 = true) → (nl x4 = true) → (nl x5 = true) → Rn Γ XX3_listPlainHops (rmO 3 0 0) none (FinM (rN (toHp w h (allM f mv))) 0 0) 0 0 u 7 [some (.ref h), some (.ref b), some (.int (nI i)), x3, x4, x5] [] := by
    intro m
    induction m with
    | zero =>
      intro i u x3 x4 x5 hi hu e3 e4 e5
      have h4 : i = 48 := by omega
      subst h4
      refine r_iload_n 8 dX3_listPlainHops_7 rfl rfl ?_
      refine r_bipush (v := nI 48) 10 dX3_listPlainHops_8 rfl (by decide) ?_
      refine r_icmp_ge 89 13 dX3_listPlainHops_10 (by decide) rfl (fun q10 => ?_) (fun q10 => absurd q10 (fun z => z (nI_le (by omega) (by omega))))
      refine r_vret dX3_listPlainHops_89 rfl (by decide) (by decide) ?_
      exact ⟨rfl, hu⟩
    | succ m ih =>
      intro i u x3 x4 x5 hi hu e3 e4 e5
      have hbu : isBd u b f n mv jp := hb.fr hu.1 (fun q h1 h2 => hap.hb h1 h2)
      obtain ⟨g0, g1, g2⟩ := id hbu
      have hlen : ((List.range i).flatMap (mSq f mv) ++ mSq f mv i).length ≤ 192 := by
        rw [← fm_s]
        exact Nat.le_trans (fm_len (by omega)) h192
      refine r_iload_n 8 dX3_listPlainHops_7 rfl rfl ?_
      refine r_bipush (v := nI 48) 10 dX3_listPlainHops_8 rfl (by decide) ?_
      refine r_icmp_ge 89 13 dX3_listPlainHops_10 (by decide) rfl (fun q10 => absurd q10 (nI_ge (by omega) (by omega))) (fun q10 => ?_)
      refine r_aload_n 14 dX3_listPlainHops_13 rfl rfl rfl ?_
      refine r_iload_n 15 dX3_listPlainHops_14 rfl rfl ?_
      refine r_callV0 18 dX3_listPlainHops_15 rfl (tX0_pAt hbu (by omega)) l_X3_61 mX0_pieceAt rfl (by repeat (first | assumption | exact isBd.o (by assumption) | exact isHp.o (by assumption) | refine gs_eq ?_ | refine gs_ne (by omega) ?_ | exact is_of (by assumption) | refine gs_is ?_)) rfl (by decide) (Nat.le_of_ble_eq_true rfl) (by decide) (qI ?_)
      refine r_istore_n (ls1 := [_, _, _, _, _, _]) 19 dX3_listPlainHops_18 rfl (by decide) rfl rfl ?_
      refine r_iload_n 20 dX3_listPlainHops_19 rfl rfl ?_
      refine r_callSN0 23 dX3_listPlainHops_20 rfl (tX6_sideOf) l_X3_64 mX6_sideOf rfl (by decide) (Nat.le_of_ble_eq_true rfl) (by decide) (qI ?_)
      refine r_aload_n 24 dX3_listPlainHops_23 rfl rfl rfl ?_
      refine r_getf 27 dX3_listPlainHops_24 rfl f_X3_45.r (by repeat (first | assumption | exact isBd.o (by assumption) | exact isHp.o (by assumption) | refine gs_eq ?_ | refine gs_ne (by omega) ?_ | exact is_of (by assumption) | refine gs_is ?_)) rfl ?_
      refine r_icmp_eq 33 30 dX3_listPlainHops_27 (by decide) rfl (fun q27 => ?_) (fun q27 => ?_)
      · refine r_iload_n 34 dX3_listPlainHops_33 rfl rfl ?_
        refine r_callSN0 37 dX3_listPlainHops_34 rfl (tX6_isKing) l_X3_67 mX6_isKing rfl (by decide) (Nat.le_of_ble_eq_true rfl) (by decide) (qI ?_)
        refine r_if_eq 45 40 dX3_listPlainHops_37 (by decide) rfl (fun q37 => ?_) (fun q37 => ?_)
        · refine r_iconst (v := nI 1) 46 dX3_listPlainHops_45 rfl (by decide) ?_
          refine r_istore (ls1 := [_, _, _, _, _, _]) 48 dX3_listPlainHops_46 rfl (by decide) rfl rfl ?_
          refine r_iconst (v := nI 0) 49 dX3_listPlainHops_48 rfl (by decide) ?_
          refine r_istore (ls1 := [_, _, _, _, _, _]) 51 dX3_listPlainHops_49 rfl (by decide) rfl rfl ?_
          have hj : mSq f mv i = (List.range 4).flatMap (mAt f i) := by
            unfold mSq
            rw [if_pos q27]
          rw [hj] at hlen
          refine inner i _ _ (by omega) (by first | (rw [if_pos (ne_f q37)]) | (rw [if_neg (eq_f q37)])) hlen (fun u1 x3 x4 x5 hu1 e3 e4 e5 => ?_) 4 0 u (by omega) (by rw [show (List.range 0).flatMap (mAt f i) = [] from rfl, List.append_nil]; exact hu)
          refine r_iinc (ls1 := [_, _, _, _, _, _]) 86 dX3_listPlainHops_83 rfl (by decide) rfl rfl (nI_1 i) rfl ?_
          refine r_goto 7 dX3_listPlainHops_86 (by decide) ?_
          exact ih (i + 1) u1 _ _ _ (by omega) (by rw [fm_s, hj]; exact hu1) e3 e4 e5
        · refine r_bipush (v := nI 23) 42 dX3_listPlainHops_40 rfl (by decide) ?_
          refine r_goto 46 dX3_listPlainHops_42 (by decide) ?_
          refine r_istore (ls1 := [_, _, _, _, _, _]) 48 dX3_listPlainHops_46 rfl (by decide) rfl rfl ?_
          refine r_iconst (v := nI 0) 49 dX3_listPlainHops_48 rfl (by decide) ?_
          refine r_istore (ls1 := [_, _, _, _, _, _]) 51 dX3_listPlainHops_49 rfl (by decide) rfl rfl ?_
          have hj : mSq f mv i = (List.range 4).flatMap (mAt f i) := by
            unfold mSq
            rw [if_pos q27]
          rw [hj] at hlen
          refine inner i _ _ (by omega) (by first | (rw [if_pos (ne_f q37)]) | (rw [if_neg (eq_f q37)])) hlen (fun u1 x3 x4 x5 hu1 e3 e4 e5 => ?_) 4 0 u (by omega) (by rw [show (List.range 0).flatMap (mAt f i) = [] from rfl, List.append_nil]; exact hu)
          refine r_iinc (ls1 := [_, _, _, _, _, _]) 86 dX3_listPlainHops_83 rfl (by decide) rfl rfl (nI_1 i) rfl ?_
          refine r_goto 7 dX3_listPlainHops_86 (by decide) ?_
          exact ih (i + 1) u1 _ _ _ (by omega) (by rw [fm_s, hj]; exact hu1) e3 e4 e5
      · refine r_goto 83 dX3_listPlainHops_30 (by decide) ?_
        refine r_iinc (ls1 := [_, _, _, _, _, _]) 86 dX3_listPlainHops_83 rfl (by decide) rfl rfl (nI_1 i) rfl ?_
        refine r_goto 7 dX3_listPlainHops_86 (by decide) ?_
        exact ih (i + 1) u _ _ _ (by omega) (by rw [fm_s, show mSq f mv i = [] by unfold mSq; rw [if_neg q27], List.append_nil]; exact hu) rfl e4 e5
  refine Cl.of (ls := [some (.ref h), some (.ref b), none, none, none, none]) rfl (by decide +kernel) (fun h => by cases h) (Nat.le_of_ble_eq_true rfl) rfl ?_
  refine r_aload_n 1 dX3_listPlainHops_0 rfl rfl rfl ?_
  refine r_iconst (v := 0) 2 dX3_listPlainHops_1 rfl (by decide) ?_
  refine r_putf (fs1 := [_, _, _, _, _, _]) 5 dX3_listPlainHops_2 rfl f_X3_27 (by repeat (first | assumption | exact isBd.o (by assumption) | exact isHp.o (by assumption) | refine gs_eq ?_ | refine gs_ne (by omega) ?_ | exact is_of (by assumption) | refine gs_is ?_)) rfl (by simp only [List.length_cons, List.length_nil]; omega) rfl ?_
  refine r_iconst (v := nI 0) 6 dX3_listPlainHops_5 rfl (by decide) ?_
  refine r_istore_n (ls1 := [_, _, _, _, _, _]) 7 dX3_listPlainHops_6 rfl (by decide) rfl rfl ?_
  exact outer 48 0 _ _ _ _ (by omega) hh.zero rfl rfl rfl

set_option maxRecDepth 100000 in
theorem tX3_list {Γ : CT} {w : PW} {b h : Nat} {f n : Nat → Int32} {mv jp : Int32} {l : List HP} (hb : isBd w b f n mv jp) (hh : isHp w h l) (hap : apH b h) (hj : (allJ f mv jp).length ≤ 192) (hm : (allM f mv).length ≤ 192) : Cl Γ yX3_list XX3_list 4 0 0 [.ref h, .ref b] w (rN (toHp w h (hopsC f mv jp))) := by
  refine Cl.of (ls := [some (.ref h), some (.ref b)]) rfl (by decide +kernel) (fun h => by cases h) (Nat.le_of_ble_eq_true rfl) rfl ?_
  obtain ⟨b0, b1, b2⟩ := id hb
  have hh0 := hh.2.choose_spec.choose_spec.choose_spec.choose_spec.choose_spec.2.1
  refine r_aload_n 1 dX3_list_0 rfl rfl rfl ?_
  refine r_aload_n 2 dX3_list_1 rfl rfl rfl ?_
  refine r_aload_n 3 dX3_list_2 rfl rfl rfl ?_
  refine r_getf 6 dX3_list_3 rfl f_X3_45.r (by repeat (first | assumption | exact isBd.o (by assumption) | exact isHp.o (by assumption) | refine gs_eq ?_ | refine gs_ne (by omega) ?_ | exact is_of (by assumption) | refine gs_is ?_)) rfl ?_
  refine r_aload_n 7 dX3_list_6 rfl rfl rfl ?_
  refine r_getf 10 dX3_list_7 rfl f_X3_50.r (by repeat (first | assumption | exact isBd.o (by assumption) | exact isHp.o (by assumption) | refine gs_eq ?_ | refine gs_ne (by omega) ?_ | exact is_of (by assumption) | refine gs_is ?_)) rfl ?_
  refine r_callV0 13 dX3_list_10 rfl (tX3_listJumps hb hh hap hj) l_X3_53 mX3_listJumps rfl (by repeat (first | assumption | exact isBd.o (by assumption) | exact isHp.o (by assumption) | refine gs_eq ?_ | refine gs_ne (by omega) ?_ | exact is_of (by assumption) | refine gs_is ?_)) rfl (by decide) (Nat.le_of_ble_eq_true rfl) (by decide) (qN fun w1 hq1 => ?_)
  have hh1 := hq1.2.2.choose_spec.choose_spec.choose_spec.choose_spec.choose_spec.2.1
  refine r_aload_n 14 dX3_list_13 rfl rfl rfl ?_
  refine r_getf 17 dX3_list_14 rfl f_X3_27.r (by repeat (first | assumption | exact isBd.o (by assumption) | exact isHp.o (by assumption) | refine gs_eq ?_ | refine gs_ne (by omega) ?_ | exact is_of (by assumption) | refine gs_is ?_)) rfl ?_
  refine r_if_ne 25 20 dX3_list_17 (by decide) rfl (fun q17 => ?_) (fun q17 => ?_)
  · refine r_vret dX3_list_25 rfl (by decide) (by decide) ?_
    first | exact ⟨rfl, by rw [hopsC, if_pos (nI_z hq1.2.1 q17)]; exact hq1.tr hq2⟩ | exact ⟨rfl, by rw [hopsC, if_neg (fun z => q17 (by rw [z]; rfl))]; exact hq1⟩
  · refine r_aload_n 21 dX3_list_20 rfl rfl rfl ?_
    refine r_aload_n 22 dX3_list_21 rfl rfl rfl ?_
    refine r_callV0 25 dX3_list_22 rfl (tX3_listPlainHops (hb.fr hq1.1 (fun q h1 h2 => hap.hb h1 h2)) hq1.2 hap hm) l_X3_57 mX3_listPlainHops rfl (by repeat (first | assumption | exact isBd.o (by assumption) | exact isHp.o (by assumption) | refine gs_eq ?_ | refine gs_ne (by omega) ?_ | exact is_of (by assumption) | refine gs_is ?_)) rfl (by decide) (Nat.le_of_ble_eq_true rfl) (by decide) (qN fun w2 hq2 => ?_)
    refine r_vret dX3_list_25 rfl (by decide) (by decide) ?_
    first | exact ⟨rfl, by rw [hopsC, if_pos (nI_z hq1.2.1 q17)]; exact hq1.tr hq2⟩ | exact ⟨rfl, by rw [hopsC, if_neg (fun z => q17 (by rw [z]; rfl))]; exact hq1⟩

