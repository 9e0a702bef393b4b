/-! ===== the model: the board behind a hop; the look ===== -/
def goQ (f : Nat → Int32) (mv : Int32) (q : HP) : Prop := q.1 < 48 ∧ q.2.1 < 48 ∧ f q.2.1 = -6 ∧ sdO (f q.1) = mv ∧ (q.2.2.2.2 = -6 ∨ ∃ t, t < 48 ∧ q.2.2.2.2 = nI t ∧ sdO (f t) = 1 - mv)
theorem hopsC_go {f : Nat → Int32} {mv jp : Int32} {q : HP} (hmv : mv = 0 ∨ mv = 1) (h : q ∈ hopsC f mv jp) : goQ f mv q := by
  have hP := hopsC_PH h
  have hto : q.2.1 < 48 := by rw [hP.2.2.2.2.1]; exact nk_lt hP.1
  unfold hopsC at h
  split at h
  · obtain ⟨a, b⟩ := allM_tk h
    exact ⟨hP.1, hto, b, hP.2.2.2.2.2.1, Or.inl a⟩
  · obtain ⟨t, a, b, c, d⟩ := allJ_tk h
    exact ⟨hP.1, hto, c, hP.2.2.2.2.2.1, Or.inr ⟨t, a, b, d hmv⟩⟩
theorem mkF_at {f : Nat → Int32} {mv : Int32} {q : HP} (h : goQ f mv q) (s : Nat) : mkF f mv q s = if s = q.2.1 then mkP f mv q else if q.2.2.2.2 = nI s ∧ s < 48 then -6 else if s = q.1 then -6 else f s := by
  obtain ⟨h1, h2, h3, h4, h5⟩ := h
  unfold mkF
  rw [plF_nI h2]
  by_cases e1 : s = q.2.1
  · rw [if_pos e1, e1, pk_us]
  rw [if_neg e1, pk_un e1, plF_nI h1]
  rcases h5 with h5 | ⟨t, ht, h5, -⟩
  · rw [h5]
    have e2 : plF (upd f q.1 (-6)) (-6) (-6) = upd f q.1 (-6) := plF_out (Or.inl (by decide))
    rw [e2, if_neg (fun z => nI_n6 (j := s) (by omega) z.1.symm)]
    by_cases e3 : s = q.1
    · rw [if_pos e3, e3, pk_us]
    · rw [if_neg e3, pk_un e3]
  · rw [h5, plF_nI ht]
    by_cases e2 : s = t
    · rw [if_pos ⟨by rw [e2], by omega⟩, e2, pk_us]
    · rw [if_neg (fun z => e2 ((nI_eq (by omega) (by omega)).mp z.1).symm), pk_un e2]
      by_cases e3 : s = q.1
      · rw [if_pos e3, e3, pk_us]
      · rw [if_neg e3, pk_un e3]
theorem crO_p {p s k : Int32} (h : crO p s k = true) : p = 0 ∨ p = 2 := by
  unfold crO at h
  split at h
  · exact Or.inl (by assumption)
  · split at h
    · exact Or.inr (by assumption)
    · cases h
theorem mkP_eq {f : Nat → Int32} {mv : Int32} {q : HP} (h : sdO (f q.1) = mv) : mkP f mv q = if crO (f q.1) (nI q.1) (nI q.2.2.2.1) = true then f q.1 + 1 else f q.1 := by
  unfold mkP
  split
  · next hc =>
    rcases crO_p hc with e | e
    · rw [e] at h ⊢
      rw [← h]
      decide
    · rw [e] at h ⊢
      rw [← h]
      decide
  · rfl
theorem mkP_ok {f : Nat → Int32} {mv : Int32} {q : HP} (h : sdO (f q.1) = mv) (hp : okP (f q.1)) : okP (mkP f mv q) ∧ sdO (mkP f mv q) = mv := by
  rw [mkP_eq h]
  split
  · next hc =>
    rcases crO_p hc with e | e
    · rw [e] at h ⊢
      exact ⟨Or.inr (Or.inr (Or.inl (by decide))), by rw [← h]; decide⟩
    · rw [e] at h ⊢
      exact ⟨Or.inr (Or.inr (Or.inr (Or.inr (by decide)))), by rw [← h]; decide⟩
  · exact ⟨hp, h⟩
theorem mkF_ok {f : Nat → Int32} {mv : Int32} {q : HP} (h : goQ f mv q) (hf : okF f) : okF (mkF f mv q) := by
  intro s hs
  rw [mkF_at h]
  split
  · exact (mkP_ok h.2.2.2.1 (hf _ h.1)).1
  · split
    · exact Or.inl rfl
    · split
      · exact Or.inl rfl
      · exact hf s hs
theorem mkF_to {f : Nat → Int32} {mv : Int32} {q : HP} (h : goQ f mv q) (hf : okF f) : sdO (mkF f mv q q.2.1) = mv := by
  rw [mkF_at h, if_pos rfl]
  exact (mkP_ok h.2.2.2.1 (hf _ h.1)).2
theorem jAt_ne {f : Nat → Int32} {s way : Nat} (h : 0 < prey f s way) : jAt f s way ≠ [] := by
  unfold jAt
  rw [if_pos h]
  obtain ⟨p1, p2, p3, p4, p5⟩ := prey_pos h
  have h22 := prey_le f s way
  have hfar := prey_far h22 h
  unfold lands
  by_cases hk : isKg (f s) = true
  · rw [if_pos hk, show 23 - prey f s way = (22 - prey f s way) + 1 by omega]
    unfold ld
    rw [if_pos p4]
    exact List.cons_ne_nil _ _
  · rw [if_neg hk]
    have e : prey f s way = 1 := by
      rw [p2]
      unfold feK
      rw [if_neg hk]
      rfl
    rw [e] at p4 ⊢
    show ld f s way _ (0 + 1) (1 + 1) ≠ []
    unfold ld
    rw [if_pos p4]
    exact List.cons_ne_nil _ _
theorem canJ_allJ {g : Nat → Int32} {mv : Int32} {t : Nat} (ht : t < 48) (hs : sdO (g t) = mv) : allJ g mv (nI t) ≠ [] ↔ canJ g t = true := by
  constructor
  · intro h
    obtain ⟨q, hq⟩ := List.exists_mem_of_ne_nil _ h
    obtain ⟨s, hs48, hq⟩ := fm_mem hq
    obtain ⟨h1, h2, way, hw, hq9⟩ := jSq_mem hq
    clear hq
    have hq := hq9
    have e : s = t := by
      rcases h2 with h2 | h2
      · exact absurd h2 (nI_n6 (by omega))
      · exact ((nI_eq (by omega) (by omega)).mp h2).symm
    have e2 : t = s := e.symm
    subst e2
    unfold canJ
    refine any_t hw (decide_eq_true ?_)
    unfold jAt at hq
    split at hq
    · assumption
    · simp at hq
  · intro h
    unfold canJ at h
    obtain ⟨way, hw, h1⟩ := List.any_eq_true.mp h
    have hw4 := List.mem_range.mp hw
    have hp := of_decide_eq_true h1
    obtain ⟨q, hq⟩ := List.exists_mem_of_ne_nil _ (jAt_ne hp)
    refine List.ne_nil_of_mem (a := q) ?_
    refine List.mem_flatMap.mpr ⟨t, List.mem_range.mpr ht, ?_⟩
    unfold jSq
    rw [if_pos ⟨hs, Or.inr rfl⟩]
    exact List.mem_flatMap.mpr ⟨way, hw, hq⟩
/-- a chain is a piece that can jump -/
def jjO (f : Nat → Int32) (mv jp : Int32) : Prop := jp = -6 ∨ allJ f mv jp ≠ []
theorem mkJ_jj {f : Nat → Int32} {mv : Int32} {q : HP} (h : goQ f mv q) (hf : okF f) : jjO (mkF f mv q) (mkM f mv q) (mkJ f mv q) := by
  by_cases e : mkJ f mv q = -6
  · exact Or.inl e
  · refine Or.inr ?_
    have em : mkM f mv q = mv := by unfold mkM; rw [if_neg e]
    rw [em]
    have hc : ¬ q.2.2.2.2 = -6 ∧ canJ (mkF f mv q) q.2.1 = true := by
      by_cases hc : ¬ q.2.2.2.2 = -6 ∧ canJ (mkF f mv q) q.2.1 = true
      · exact hc
      · exact absurd (by unfold mkJ; rw [if_neg hc]) e
    have ej : mkJ f mv q = nI q.2.1 := by unfold mkJ; rw [if_pos hc]
    rw [ej]
    exact (canJ_allJ h.2.1 (mkF_to h hf)).mpr hc.2
theorem i_78 {x : Int32} : 7 < x ↔ 8 ≤ x := by
  rw [Int32.lt_iff_toInt_lt, Int32.le_iff_toInt_le]
  show 7 < x.toInt ↔ 8 ≤ x.toInt
  omega
def smB (W V : MW) (M : Nat) : Prop := (∀ j, j < 48 * M → V.1 j = W.1 j) ∧ (∀ j, j < M → V.2.1 j = W.2.1 j ∧ V.2.2.1 j = W.2.2.1 j) ∧ smH W V M
theorem smB.rf {W : MW} {M : Nat} : smB W W M := ⟨fun _ _ => rfl, fun _ _ => ⟨rfl, rfl⟩, smH.rf⟩
theorem smB.tr {W V U : MW} {M : Nat} (h : smB W V M) (k : smB V U M) : smB W U M := ⟨fun j hj => (k.1 j hj).trans (h.1 j hj), fun j hj => ⟨(k.2.1 j hj).1.trans (h.2.1 j hj).1, (k.2.1 j hj).2.trans (h.2.1 j hj).2⟩, h.2.2.tr k.2.2⟩
theorem smH.lo {W V : MW} {M N : Nat} (h : smH W V M) (hN : N ≤ M) : smH W V N := ⟨fun j hj => h.1 j (by omega), fun j hj => h.2 j (by omega)⟩
theorem smB.lo {W V : MW} {M N : Nat} (h : smB W V M) (hN : N ≤ M) : smB W V N := ⟨fun j hj => h.1 j (by omega), fun j hj => h.2.1 j (by omega), h.2.2.lo hN⟩
theorem smL.B {W V : MW} {L : Nat} (h : smL W V L) : smB W V L := ⟨fun j _ => by rw [h.1], fun j _ => ⟨by rw [h.2.1], by rw [h.2.2.1]⟩, h.2.2.2⟩
theorem bdA.lo {W V : MW} {L M : Nat} {f : Nat → Int32} (h : bdA W L f) (k : smB W V M) (hL : L < M) : bdA V L f := fun s hs => (k.1 _ (by omega)).trans (h s hs)
set_option maxRecDepth 100000 in
theorem tX7_becomesKing {Γ : CT} {w : PW} {pm ty rm sp wr : Int32} {W : MW} {L k : Nat} {f : Nat → Int32} {l : List HP} {q : HP} (ho : w[43]? = some (oM pm ty rm sp wr)) (hW : isW w W) (hb : bdA W L f) (hls : lsA W L l) (hL : L < 4) (hq : l[k]? = some q) (hfr : q.1 < 48) : Cl Γ yX7_becomesKing XX7_becomesKing 1 0 0 [.ref 43, .int (nI L), .int (nI k)] w (rI (bI (crO (f q.1) (nI q.1) (nI q.2.2.2.1))) w) := by
  refine Cl.of (ls := [some (.ref 43), some (.int (nI L)), some (.int (nI k)), none, none, none]) rfl (by decide +kernel) (fun h => by cases h) (Nat.le_of_ble_eq_true rfl) rfl ?_
  obtain ⟨B, sd, ch, hm, fr, wy, gs, gl, tk⟩ := W
  obtain ⟨w49, w50, w51, w52, w53, w54, w55, w56, w57⟩ : w[49]? = some (aI 192 B) ∧ w[50]? = some (aI 4 sd) ∧ w[51]? = some (aI 4 ch) ∧ w[52]? = some (aI 4 hm) ∧ w[53]? = some (aI 6000 fr) ∧ w[54]? = some (aI 6000 wy) ∧ w[55]? = some (aI 6000 gs) ∧ w[56]? = some (aI 6000 gl) ∧ w[57]? = some (aI 6000 tk) := id hW
  have hk : k < l.length := (List.getElem?_eq_some_iff.mp hq).1
  have h192 := hls.1
  obtain ⟨e1, e2, e3, e4, e5⟩ : fr (1500 * L + k) = nI q.1 ∧ wy (1500 * L + k) = nI q.2.2.1 ∧ gs (1500 * L + k) = nI q.2.2.2.1 ∧ gl (1500 * L + k) = nI q.2.1 ∧ tk (1500 * L + k) = q.2.2.2.2 := hls.2.2 k q hq
  refine r_sipush (v := nI 1500) 3 dX7_becomesKing_0 rfl (by decide) ?_
  refine r_iload_n 4 dX7_becomesKing_3 rfl rfl ?_
  refine r_imul 5 dX7_becomesKing_4 rfl ?_
  rw [pk_mul]
  refine r_iload_n 6 dX7_becomesKing_5 rfl rfl ?_
  refine r_iadd 7 dX7_becomesKing_6 rfl ?_
  rw [nI_add]
  refine r_istore_n (ls1 := [_, _, _, _, _, _]) 8 dX7_becomesKing_7 rfl (by decide) rfl rfl ?_
  refine r_aload_n 9 dX7_becomesKing_8 rfl rfl rfl ?_
  refine r_iload_n 10 dX7_becomesKing_9 rfl rfl ?_
  refine r_aload_n 11 dX7_becomesKing_10 rfl rfl rfl ?_
  refine r_getf 14 dX7_becomesKing_11 rfl f_X7_39.r (by repeat (first | assumption | refine gs_eq ?_ | refine gs_ne (by omega) ?_ | exact is_of (by assumption) | refine gs_is ?_)) rfl ?_
  refine r_iload_n 15 dX7_becomesKing_14 rfl rfl ?_
  refine r_iald 16 dX7_becomesKing_15 rfl (1500 * L + k) (by repeat (first | assumption | refine gs_eq ?_ | refine gs_ne (by omega) ?_ | exact is_of (by assumption) | refine gs_is ?_)) rfl (by omega) (by decide) ?_
  rw [e1]
  refine r_callV0 19 dX7_becomesKing_16 rfl (tX7_pieceAt ho hW hb hL hfr) l_X7_79 mX7_pieceAt rfl (by repeat (first | assumption | refine gs_eq ?_ | refine gs_ne (by omega) ?_ | exact is_of (by assumption) | refine gs_is ?_)) rfl (by decide) (Nat.le_of_ble_eq_true rfl) (by decide) (qI ?_)
  refine r_istore (ls1 := [_, _, _, _, _, _]) 21 dX7_becomesKing_19 rfl (by decide) rfl rfl ?_
  refine r_aload_n 22 dX7_becomesKing_21 rfl rfl rfl ?_
  refine r_getf 25 dX7_becomesKing_22 rfl f_X7_39.r (by repeat (first | assumption | refine gs_eq ?_ | refine gs_ne (by omega) ?_ | exact is_of (by assumption) | refine gs_is ?_)) rfl ?_
  refine r_iload_n 26 dX7_becomesKing_25 rfl rfl ?_
  refine r_iald 27 dX7_becomesKing_26 rfl (1500 * L + k) (by repeat (first | assumption | refine gs_eq ?_ | refine gs_ne (by omega) ?_ | exact is_of (by assumption) | refine gs_is ?_)) rfl (by omega) (by decide) ?_
  rw [e1]
  refine r_callS0 30 dX7_becomesKing_27 rfl (tX7_rowOf) l_X7_69 mX7_rowOf rfl (by decide) (Nat.le_of_ble_eq_true rfl) (by decide) (qI ?_)
  refine r_istore (ls1 := [_, _, _, _, _, _]) 32 dX7_becomesKing_30 rfl (by decide) rfl rfl ?_
  refine r_iload 34 dX7_becomesKing_32 rfl rfl ?_
  refine r_if_ne 51 37 dX7_becomesKing_34 (by decide) rfl (fun q34 => ?_) (fun q34 => ?_)
  · refine r_iload 53 dX7_becomesKing_51 rfl rfl ?_
    refine r_iconst (v := 2) 54 dX7_becomesKing_53 rfl (by decide) ?_
    refine r_icmp_ne 73 57 dX7_becomesKing_54 (by decide) rfl (fun q54 => ?_) (fun q54 => ?_)
    · refine r_iconst (v := 0) 74 dX7_becomesKing_73 rfl (by decide) ?_
      refine r_bret dX7_becomesKing_74 rfl (by first | exact Or.inl rfl | exact Or.inr rfl) (by decide) (by decide) ?_
      first
      | exact ⟨by rw [crO, if_pos q34, decide_eq_true (i_78.mp q48)]; rfl, rfl⟩
      | exact ⟨by rw [crO, if_pos q34, decide_eq_false (fun z => q48 (i_78.mpr z))]; rfl, rfl⟩
      | exact ⟨by rw [crO, if_neg q34, if_pos q54, decide_eq_true (Int32.not_le.mp q66)]; rfl, rfl⟩
      | exact ⟨by rw [crO, if_neg q34, if_pos q54, decide_eq_false (Int32.not_lt.mpr q66)]; rfl, rfl⟩
      | exact ⟨by rw [crO, if_neg q34, if_neg q54]; rfl, rfl⟩
      | exact absurd (q34.symm.trans q54) (by decide)
    · refine r_iload 59 dX7_becomesKing_57 rfl rfl ?_
      refine r_aload_n 60 dX7_becomesKing_59 rfl rfl rfl ?_
      refine r_getf 63 dX7_becomesKing_60 rfl f_X7_45.r (by repeat (first | assumption | refine gs_eq ?_ | refine gs_ne (by omega) ?_ | exact is_of (by assumption) | refine gs_is ?_)) rfl ?_
      refine r_iload_n 64 dX7_becomesKing_63 rfl rfl ?_
      refine r_iald 65 dX7_becomesKing_64 rfl (1500 * L + k) (by repeat (first | assumption | refine gs_eq ?_ | refine gs_ne (by omega) ?_ | exact is_of (by assumption) | refine gs_is ?_)) rfl (by omega) (by decide) ?_
      rw [e3]
      refine r_isub 66 dX7_becomesKing_65 rfl ?_
      refine r_if_ge 73 69 dX7_becomesKing_66 (by decide) rfl (fun q66 => ?_) (fun q66 => ?_)
      · refine r_iconst (v := 0) 74 dX7_becomesKing_73 rfl (by decide) ?_
        refine r_bret dX7_becomesKing_74 rfl (by first | exact Or.inl rfl | exact Or.inr rfl) (by decide) (by decide) ?_
        first
        | exact ⟨by rw [crO, if_pos q34, decide_eq_true (i_78.mp q48)]; rfl, rfl⟩
        | exact ⟨by rw [crO, if_pos q34, decide_eq_false (fun z => q48 (i_78.mpr z))]; rfl, rfl⟩
        | exact ⟨by rw [crO, if_neg q34, if_pos q54, decide_eq_true (Int32.not_le.mp q66)]; rfl, rfl⟩
        | exact ⟨by rw [crO, if_neg q34, if_pos q54, decide_eq_false (Int32.not_lt.mpr q66)]; rfl, rfl⟩
        | exact ⟨by rw [crO, if_neg q34, if_neg q54]; rfl, rfl⟩
        | exact absurd (q34.symm.trans q54) (by decide)
      · refine r_iconst (v := 1) 70 dX7_becomesKing_69 rfl (by decide) ?_
        refine r_goto 74 dX7_becomesKing_70 (by decide) ?_
        refine r_bret dX7_becomesKing_74 rfl (by first | exact Or.inl rfl | exact Or.inr rfl) (by decide) (by decide) ?_
        first
        | exact ⟨by rw [crO, if_pos q34, decide_eq_true (i_78.mp q48)]; rfl, rfl⟩
        | exact ⟨by rw [crO, if_pos q34, decide_eq_false (fun z => q48 (i_78.mpr z))]; rfl, rfl⟩
        | exact ⟨by rw [crO, if_neg q34, if_pos q54, decide_eq_true (Int32.not_le.mp q66)]; rfl, rfl⟩
        | exact ⟨by rw [crO, if_neg q34, if_pos q54, decide_eq_false (Int32.not_lt.mpr q66)]; rfl, rfl⟩
        | exact ⟨by rw [crO, if_neg q34, if_neg q54]; rfl, rfl⟩
        | exact absurd (q34.symm.trans q54) (by decide)
  · refine r_iload 39 dX7_becomesKing_37 rfl rfl ?_
    refine r_aload_n 40 dX7_becomesKing_39 rfl rfl rfl ?_
    refine r_getf 43 dX7_becomesKing_40 rfl f_X7_45.r (by repeat (first | assumption | refine gs_eq ?_ | refine gs_ne (by omega) ?_ | exact is_of (by assumption) | refine gs_is ?_)) rfl ?_
    refine r_iload_n 44 dX7_becomesKing_43 rfl rfl ?_
    refine r_iald 45 dX7_becomesKing_44 rfl (1500 * L + k) (by repeat (first | assumption | refine gs_eq ?_ | refine gs_ne (by omega) ?_ | exact is_of (by assumption) | refine gs_is ?_)) rfl (by omega) (by decide) ?_
    rw [e3]
    refine r_iadd 46 dX7_becomesKing_45 rfl ?_
    refine r_bipush (v := 7) 48 dX7_becomesKing_46 rfl (by decide) ?_
    refine r_icmp_gt 69 51 dX7_becomesKing_48 (by decide) rfl (fun q48 => ?_) (fun q48 => ?_)
    · refine r_iconst (v := 1) 70 dX7_becomesKing_69 rfl (by decide) ?_
      refine r_goto 74 dX7_becomesKing_70 (by decide) ?_
      refine r_bret dX7_becomesKing_74 rfl (by first | exact Or.inl rfl | exact Or.inr rfl) (by decide) (by decide) ?_
      first
      | exact ⟨by rw [crO, if_pos q34, decide_eq_true (i_78.mp q48)]; rfl, rfl⟩
      | exact ⟨by rw [crO, if_pos q34, decide_eq_false (fun z => q48 (i_78.mpr z))]; rfl, rfl⟩
      | exact ⟨by rw [crO, if_neg q34, if_pos q54, decide_eq_true (Int32.not_le.mp q66)]; rfl, rfl⟩
      | exact ⟨by rw [crO, if_neg q34, if_pos q54, decide_eq_false (Int32.not_lt.mpr q66)]; rfl, rfl⟩
      | exact ⟨by rw [crO, if_neg q34, if_neg q54]; rfl, rfl⟩
      | exact absurd (q34.symm.trans q54) (by decide)
    · refine r_iload 53 dX7_becomesKing_51 rfl rfl ?_
      refine r_iconst (v := 2) 54 dX7_becomesKing_53 rfl (by decide) ?_
      refine r_icmp_ne 73 57 dX7_becomesKing_54 (by decide) rfl (fun q54 => ?_) (fun q54 => ?_)
      · refine r_iconst (v := 0) 74 dX7_becomesKing_73 rfl (by decide) ?_
        refine r_bret dX7_becomesKing_74 rfl (by first | exact Or.inl rfl | exact Or.inr rfl) (by decide) (by decide) ?_
        first
        | exact ⟨by rw [crO, if_pos q34, decide_eq_true (i_78.mp q48)]; rfl, rfl⟩
        | exact ⟨by rw [crO, if_pos q34, decide_eq_false (fun z => q48 (i_78.mpr z))]; rfl, rfl⟩
        | exact ⟨by rw [crO, if_neg q34, if_pos q54, decide_eq_true (Int32.not_le.mp q66)]; rfl, rfl⟩
        | exact ⟨by rw [crO, if_neg q34, if_pos q54, decide_eq_false (Int32.not_lt.mpr q66)]; rfl, rfl⟩
        | exact ⟨by rw [crO, if_neg q34, if_neg q54]; rfl, rfl⟩
        | exact absurd (q34.symm.trans q54) (by decide)
      · refine r_iload 59 dX7_becomesKing_57 rfl rfl ?_
        refine r_aload_n 60 dX7_becomesKing_59 rfl rfl rfl ?_
        refine r_getf 63 dX7_becomesKing_60 rfl f_X7_45.r (by repeat (first | assumption | refine gs_eq ?_ | refine gs_ne (by omega) ?_ | exact is_of (by assumption) | refine gs_is ?_)) rfl ?_
        refine r_iload_n 64 dX7_becomesKing_63 rfl rfl ?_
        refine r_iald 65 dX7_becomesKing_64 rfl (1500 * L + k) (by repeat (first | assumption | refine gs_eq ?_ | refine gs_ne (by omega) ?_ | exact is_of (by assumption) | refine gs_is ?_)) rfl (by omega) (by decide) ?_
        rw [e3]
        refine r_isub 66 dX7_becomesKing_65 rfl ?_
        refine r_if_ge 73 69 dX7_becomesKing_66 (by decide) rfl (fun q66 => ?_) (fun q66 => ?_)
        · refine r_iconst (v := 0) 74 dX7_becomesKing_73 rfl (by decide) ?_
          refine r_bret dX7_becomesKing_74 rfl (by first | exact Or.inl rfl | exact Or.inr rfl) (by decide) (by decide) ?_
          first
          | exact ⟨by rw [crO, if_pos q34, decide_eq_true (i_78.mp q48)]; rfl, rfl⟩
          | exact ⟨by rw [crO, if_pos q34, decide_eq_false (fun z => q48 (i_78.mpr z))]; rfl, rfl⟩
          | exact ⟨by rw [crO, if_neg q34, if_pos q54, decide_eq_true (Int32.not_le.mp q66)]; rfl, rfl⟩
          | exact ⟨by rw [crO, if_neg q34, if_pos q54, decide_eq_false (Int32.not_lt.mpr q66)]; rfl, rfl⟩
          | exact ⟨by rw [crO, if_neg q34, if_neg q54]; rfl, rfl⟩
          | exact absurd (q34.symm.trans q54) (by decide)
        · refine r_iconst (v := 1) 70 dX7_becomesKing_69 rfl (by decide) ?_
          refine r_goto 74 dX7_becomesKing_70 (by decide) ?_
          refine r_bret dX7_becomesKing_74 rfl (by first | exact Or.inl rfl | exact Or.inr rfl) (by decide) (by decide) ?_
          first
          | exact ⟨by rw [crO, if_pos q34, decide_eq_true (i_78.mp q48)]; rfl, rfl⟩
          | exact ⟨by rw [crO, if_pos q34, decide_eq_false (fun z => q48 (i_78.mpr z))]; rfl, rfl⟩
          | exact ⟨by rw [crO, if_neg q34, if_pos q54, decide_eq_true (Int32.not_le.mp q66)]; rfl, rfl⟩
          | exact ⟨by rw [crO, if_neg q34, if_pos q54, decide_eq_false (Int32.not_lt.mpr q66)]; rfl, rfl⟩
          | exact ⟨by rw [crO, if_neg q34, if_neg q54]; rfl, rfl⟩
          | exact absurd (q34.symm.trans q54) (by decide)

def toGo (w : PW) (W : MW) (L : Nat) (f : Nat → Int32) (mv : Int32) (q : HP) : PW → Prop := fun w1 => Fr w w1 wS ∧ ∃ V, isW w1 V ∧ bdA V (L + 1) (mkF f mv q) ∧ V.2.1 (L + 1) = mkM f mv q ∧ V.2.2.1 (L + 1) = mkJ f mv q ∧ smB W V (L + 1)
theorem go_bd {E f : Nat → Int32} {mv v : Int32} {q : HP} {b : Nat} (hg : goQ f mv q) (hE : ∀ s, s < 48 → E (b + s) = f s) (hP : mkP f mv q = v) (ht : q.2.2.2.2 = -6) : ∀ s, s < 48 → upd (upd E (b + q.1) (-6)) (b + q.2.1) v (b + s) = mkF f mv q s := by
  intro s hs
  rw [mkF_at hg, hP, ht]
  by_cases a1 : s = q.2.1
  · rw [if_pos a1, a1, pk_us]
  rw [if_neg a1, pk_un (by omega), if_neg (fun z => nI_n6 (j := s) (by omega) z.1.symm)]
  by_cases a2 : s = q.1
  · rw [if_pos a2, a2, pk_us]
  · rw [if_neg a2, pk_un (by omega)]
    exact hE s hs
theorem go_bdT {E f : Nat → Int32} {mv v : Int32} {q : HP} {b t : Nat} (hg : goQ f mv q) (hE : ∀ s, s < 48 → E (b + s) = f s) (hP : mkP f mv q = v) (ht : q.2.2.2.2 = nI t) (ht48 : t < 48) (hne : t ≠ q.2.1) : ∀ s, s < 48 → upd (upd (upd E (b + q.1) (-6)) (b + q.2.1) v) (b + t) (-6) (b + s) = mkF f mv q s := by
  intro s hs
  rw [mkF_at hg, hP, ht]
  by_cases a0 : s = t
  · rw [if_neg (by omega), if_pos ⟨by rw [a0], hs⟩, a0, pk_us]
  rw [pk_un (by omega)]
  by_cases a1 : s = q.2.1
  · rw [if_pos a1, a1, pk_us]
  rw [if_neg a1, pk_un (by omega), if_neg (fun z => a0 ((nI_eq (by omega) (by omega)).mp z.1).symm)]
  by_cases a2 : s = q.1
  · rw [if_pos a2, a2, pk_us]
  · rw [if_neg a2, pk_un (by omega)]
    exact hE s hs
theorem canJ_len {g : Nat → Int32} {mv : Int32} {t : Nat} (hmv : mv = 0 ∨ mv = 1) (ht : t < 48) (hs : sdO (g t) = mv) : (nI (allJ g mv (nI t)).length ≤ 0) ↔ ¬ canJ g t = true := by
  rw [← canJ_allJ ht hs]
  constructor
  · intro h h1
    refine h1 (List.eq_nil_of_length_eq_zero ?_)
    have h2 := npos_n (by have := lenJ (f := g) (cj := nI t) hmv; omega) h
    omega
  · intro h
    have h3 : allJ g mv (nI t) = [] := Classical.byContradiction h
    rw [h3]
    decide
set_option maxHeartbeats 4000000 in
set_option maxRecDepth 100000 in
theorem tX7_go {Γ : CT} {w : PW} {pm ty rm sp wr : Int32} {W : MW} {L k : Nat} {f : Nat → Int32} {l : List HP} {q : HP} {mv : Int32} (ho : w[43]? = some (oM pm ty rm sp wr)) (hW : isW w W) (hb : bdA W L f) (hls : lsA W L l) (hL : L < 3) (hq : l[k]? = some q) (hg : goQ f mv q) (hf : okF f) (hsd : W.2.1 L = mv) (hmv : mv = 0 ∨ mv = 1) : Cl Γ yX7_go XX7_go 4 0 0 [.ref 43, .int (nI L), .int (nI k)] w (rN (toGo w W L f mv q)) := by
  obtain ⟨B, sd, ch, hm, fr, wy, gs, gl, tk⟩ := W
  obtain ⟨w49, w50, w51, w52, w53, w54, w55, w56, w57⟩ : w[49]? = some (aI 192 B) ∧ w[50]? = some (aI 4 sd) ∧ w[51]? = some (aI 4 ch) ∧ w[52]? = some (aI 4 hm) ∧ w[53]? = some (aI 6000 fr) ∧ w[54]? = some (aI 6000 wy) ∧ w[55]? = some (aI 6000 gs) ∧ w[56]? = some (aI 6000 gl) ∧ w[57]? = some (aI 6000 tk) := id hW
  have hk : k < l.length := (List.getElem?_eq_some_iff.mp hq).1
  have h192 := hls.1
  obtain ⟨e1, e2, e3, e4, e5⟩ : fr (1500 * L + k) = nI q.1 ∧ wy (1500 * L + k) = nI q.2.2.1 ∧ gs (1500 * L + k) = nI q.2.2.2.1 ∧ gl (1500 * L + k) = nI q.2.1 ∧ tk (1500 * L + k) = q.2.2.2.2 := hls.2.2 k q hq
  have esd : sd L = mv := hsd
  have hg1 := hg.1
  have hg2 := hg.2.1
  have loop : ∀ (m i : Nat) (u : PW) (E : Nat → Int32), i + m = 48 → (Fr w u wS) → (isW u (E, sd, ch, hm, fr, wy, gs, gl, tk)) → (∀ j, j < 48 * (L + 1) → E j = B j) → (∀ s, s < i → E (48 * (L + 1) + s) = f s) → Rn Γ XX7_go (rmO 4 0 0) none (FinM (rN (toGo w (B, sd, ch, hm, fr, wy, gs, gl, tk) L f mv q)) 0 0) 0 0 u 19 [some (.ref 43), some (.int (nI L)), some (.int (nI k)), some (.int (nI (1500 * L + k))), some (.int (nI (48 * (L + 1)))), some (.int (nI i))] [] := by
    intro m
    induction m with
    | zero =>
      intro i u E hi hF hU hE0 hE1
      have h48 : i = 48 := by omega
      subst h48
      have oU := (hF.2 43 (by unfold wS; omega)).trans ho
      obtain ⟨u49, u50, u51, u52, u53, u54, u55, u56, u57⟩ : u[49]? = some (aI 192 E) ∧ u[50]? = some (aI 4 sd) ∧ u[51]? = some (aI 4 ch) ∧ u[52]? = some (aI 4 hm) ∧ u[53]? = some (aI 6000 fr) ∧ u[54]? = some (aI 6000 wy) ∧ u[55]? = some (aI 6000 gs) ∧ u[56]? = some (aI 6000 gl) ∧ u[57]? = some (aI 6000 tk) := id hU
      have bL : ∀ (E2 s2 c2 : Nat → Int32), (∀ j, j < 48 * (L + 1) → E2 j = B j) → bdA (E2, s2, c2, hm, fr, wy, gs, gl, tk) L f := fun E2 s2 c2 h s hs => (h _ (by omega)).trans (hb s hs)
      have bL1 := bL E sd ch hE0
      have rest : ∀ (v : Int32), mkP f mv q = v → Rn Γ XX7_go (rmO 4 0 0) none (FinM (rN (toGo w (B, sd, ch, hm, fr, wy, gs, gl, tk) L f mv q)) 0 0) 0 0 (u.set 49 (aI 192 (upd E (48 * (L + 1) + q.1) (-6)))) 109 [some (.ref 43), some (.int (nI L)), some (.int (nI k)), some (.int (nI (1500 * L + k))), some (.int (nI (48 * (L + 1)))), some (.int (f q.1))] [.int v, .int (nI (48 * (L + 1) + q.2.1)), .ref 49] := by
        intro v hP
        refine r_iast 110 dX7_go_109 rfl (48 * (L + 1) + q.2.1) (by repeat (first | assumption | refine gs_eq ?_ | refine gs_ne (by omega) ?_ | exact is_of (by assumption) | refine gs_is ?_)) rfl (by omega) (by decide) ?_
        refine r_aload_n 111 dX7_go_110 rfl rfl rfl ?_
        refine r_getf 114 dX7_go_111 rfl f_X7_30.r (by repeat (first | assumption | refine gs_eq ?_ | refine gs_ne (by omega) ?_ | exact is_of (by assumption) | refine gs_is ?_)) rfl ?_
        refine r_iload_n 115 dX7_go_114 rfl rfl ?_
        refine r_iconst (v := 1) 116 dX7_go_115 rfl (by decide) ?_
        refine r_iadd 117 dX7_go_116 rfl ?_
        rw [nI_1]
        refine r_iconst (v := 1) 118 dX7_go_117 rfl (by decide) ?_
        refine r_aload_n 119 dX7_go_118 rfl rfl rfl ?_
        refine r_getf 122 dX7_go_119 rfl f_X7_30.r (by repeat (first | assumption | refine gs_eq ?_ | refine gs_ne (by omega) ?_ | exact is_of (by assumption) | refine gs_is ?_)) rfl ?_
        refine r_iload_n 123 dX7_go_122 rfl rfl ?_
        refine r_iald 124 dX7_go_123 rfl (L) (by repeat (first | assumption | refine gs_eq ?_ | refine gs_ne (by omega) ?_ | exact is_of (by assumption) | refine gs_is ?_)) rfl (by omega) (by decide) ?_
        rw [esd]
        refine r_isub 125 dX7_go_124 rfl ?_
        refine r_iast 126 dX7_go_125 rfl (L + 1) (by repeat (first | assumption | refine gs_eq ?_ | refine gs_ne (by omega) ?_ | exact is_of (by assumption) | refine gs_is ?_)) rfl (by omega) (by decide) ?_
        refine r_aload_n 127 dX7_go_126 rfl rfl rfl ?_
        refine r_getf 130 dX7_go_127 rfl f_X7_33.r (by repeat (first | assumption | refine gs_eq ?_ | refine gs_ne (by omega) ?_ | exact is_of (by assumption) | refine gs_is ?_)) rfl ?_
        refine r_iload_n 131 dX7_go_130 rfl rfl ?_
        refine r_iconst (v := 1) 132 dX7_go_131 rfl (by decide) ?_
        refine r_iadd 133 dX7_go_132 rfl ?_
        rw [nI_1]
        refine r_bipush (v := (-6)) 135 dX7_go_133 rfl (by decide) ?_
        refine r_iast 136 dX7_go_135 rfl (L + 1) (by repeat (first | assumption | refine gs_eq ?_ | refine gs_ne (by omega) ?_ | exact is_of (by assumption) | refine gs_is ?_)) rfl (by omega) (by decide) ?_
        refine r_aload_n 137 dX7_go_136 rfl rfl rfl ?_
        refine r_getf 140 dX7_go_137 rfl f_X7_51.r (by repeat (first | assumption | refine gs_eq ?_ | refine gs_ne (by omega) ?_ | exact is_of (by assumption) | refine gs_is ?_)) rfl ?_
        refine r_iload_n 141 dX7_go_140 rfl rfl ?_
        refine r_iald 142 dX7_go_141 rfl (1500 * L + k) (by repeat (first | assumption | refine gs_eq ?_ | refine gs_ne (by omega) ?_ | exact is_of (by assumption) | refine gs_is ?_)) rfl (by omega) (by decide) ?_
        rw [e5]
        refine r_bipush (v := (-6)) 144 dX7_go_142 rfl (by decide) ?_
        refine r_icmp_eq 221 147 dX7_go_144 (by decide) rfl (fun q144 => ?_) (fun q144 => ?_)
        · refine r_vret dX7_go_221 rfl (by decide) (by decide) ?_
          first
          | (have hc := (canJ_len hmv hg.2.1 (mkF_to hg hf)).mp q190
             have hJ : mkJ f mv q = -6 := by unfold mkJ; rw [if_neg (fun z => hc z.2)]
             have hM : mkM f mv q = 1 - mv := by unfold mkM; rw [hJ]; rw [if_pos rfl]
             refine ⟨rfl, Fr.tr (by repeat (first | exact Fr.rf | assumption | refine Fr.tr ?_ (Fr.st (by unfold wS; decide)))) (Fr.tr hF2 (by repeat (first | exact Fr.rf | refine Fr.tr ?_ (Fr.st (by unfold wS; decide))))), (B2, sd2, ch2, hm2, fr2, wy2, gs2, gl2, tk2), ⟨(by repeat (first | assumption | refine gs_eq ?_ | refine gs_ne (by omega) ?_ | exact is_of (by assumption) | refine gs_is ?_)), (by repeat (first | assumption | refine gs_eq ?_ | refine gs_ne (by omega) ?_ | exact is_of (by assumption) | refine gs_is ?_)), (by repeat (first | assumption | refine gs_eq ?_ | refine gs_ne (by omega) ?_ | exact is_of (by assumption) | refine gs_is ?_)), (by repeat (first | assumption | refine gs_eq ?_ | refine gs_ne (by omega) ?_ | exact is_of (by assumption) | refine gs_is ?_)), (by repeat (first | assumption | refine gs_eq ?_ | refine gs_ne (by omega) ?_ | exact is_of (by assumption) | refine gs_is ?_)), (by repeat (first | assumption | refine gs_eq ?_ | refine gs_ne (by omega) ?_ | exact is_of (by assumption) | refine gs_is ?_)), (by repeat (first | assumption | refine gs_eq ?_ | refine gs_ne (by omega) ?_ | exact is_of (by assumption) | refine gs_is ?_)), (by repeat (first | assumption | refine gs_eq ?_ | refine gs_ne (by omega) ?_ | exact is_of (by assumption) | refine gs_is ?_)), (by repeat (first | assumption | refine gs_eq ?_ | refine gs_ne (by omega) ?_ | exact is_of (by assumption) | refine gs_is ?_))⟩, fun s hs => by (first | rw [x1] | skip); exact hbd s hs, ?_, ?_, fun j hj => ?_, fun j hj => ⟨?_, ?_⟩, ⟨fun j hj => hh2.1 j hj, fun j hj => hh2.2 j hj⟩⟩
             · rw [hM]; rw [x2]; exact pk_us
             · rw [hJ]; rw [x3]; exact pk_us
             · rw [x1]; exact (pk_un (by omega)).trans ((pk_un (by omega)).trans ((pk_un (by omega)).trans (hE0 j hj)))
             · rw [x2]; exact pk_un (by omega)
             · rw [x3]; exact pk_un (by omega))
          | (have hc := Classical.not_not.mp (fun z => q190 ((canJ_len hmv hg.2.1 (mkF_to hg hf)).mpr z))
             have hJ : mkJ f mv q = nI q.2.1 := by unfold mkJ; rw [if_pos ⟨q144, hc⟩]
             have hM : mkM f mv q = mv := by unfold mkM; rw [hJ]; rw [if_neg (nI_n6 (by have := hg.2.1; omega))]
             refine ⟨rfl, Fr.tr (by repeat (first | exact Fr.rf | assumption | refine Fr.tr ?_ (Fr.st (by unfold wS; decide)))) (Fr.tr hF2 (by repeat (first | exact Fr.rf | refine Fr.tr ?_ (Fr.st (by unfold wS; decide))))), (B2, upd sd2 (L + 1) mv, upd ch2 (L + 1) (nI q.2.1), hm2, fr2, wy2, gs2, gl2, tk2), ⟨(by repeat (first | assumption | refine gs_eq ?_ | refine gs_ne (by omega) ?_ | exact is_of (by assumption) | refine gs_is ?_)), (by repeat (first | assumption | refine gs_eq ?_ | refine gs_ne (by omega) ?_ | exact is_of (by assumption) | refine gs_is ?_)), (by repeat (first | assumption | refine gs_eq ?_ | refine gs_ne (by omega) ?_ | exact is_of (by assumption) | refine gs_is ?_)), (by repeat (first | assumption | refine gs_eq ?_ | refine gs_ne (by omega) ?_ | exact is_of (by assumption) | refine gs_is ?_)), (by repeat (first | assumption | refine gs_eq ?_ | refine gs_ne (by omega) ?_ | exact is_of (by assumption) | refine gs_is ?_)), (by repeat (first | assumption | refine gs_eq ?_ | refine gs_ne (by omega) ?_ | exact is_of (by assumption) | refine gs_is ?_)), (by repeat (first | assumption | refine gs_eq ?_ | refine gs_ne (by omega) ?_ | exact is_of (by assumption) | refine gs_is ?_)), (by repeat (first | assumption | refine gs_eq ?_ | refine gs_ne (by omega) ?_ | exact is_of (by assumption) | refine gs_is ?_)), (by repeat (first | assumption | refine gs_eq ?_ | refine gs_ne (by omega) ?_ | exact is_of (by assumption) | refine gs_is ?_))⟩, fun s hs => by (first | rw [x1] | skip); exact hbd s hs, ?_, ?_, fun j hj => ?_, fun j hj => ⟨?_, ?_⟩, ⟨fun j hj => hh2.1 j hj, fun j hj => hh2.2 j hj⟩⟩
             · rw [hM]; exact pk_us
             · rw [hJ]; exact pk_us
             · rw [x1]; exact (pk_un (by omega)).trans ((pk_un (by omega)).trans ((pk_un (by omega)).trans (hE0 j hj)))
             · refine (pk_un (by omega)).trans ?_; rw [x2]; exact pk_un (by omega)
             · refine (pk_un (by omega)).trans ?_; rw [x3]; exact pk_un (by omega))
          | (have hJ : mkJ f mv q = -6 := by unfold mkJ; rw [if_neg (fun z => z.1 q144)]
             have hM : mkM f mv q = 1 - mv := by unfold mkM; rw [if_pos hJ]
             refine ⟨rfl, (by repeat (first | exact Fr.rf | assumption | refine Fr.tr ?_ (Fr.st (by unfold wS; decide)))), (upd (upd E (48 * (L + 1) + q.1) (-6)) (48 * (L + 1) + q.2.1) v, upd sd (L + 1) (1 - mv), upd ch (L + 1) (-6), hm, fr, wy, gs, gl, tk), ⟨(by repeat (first | assumption | refine gs_eq ?_ | refine gs_ne (by omega) ?_ | exact is_of (by assumption) | refine gs_is ?_)), (by repeat (first | assumption | refine gs_eq ?_ | refine gs_ne (by omega) ?_ | exact is_of (by assumption) | refine gs_is ?_)), (by repeat (first | assumption | refine gs_eq ?_ | refine gs_ne (by omega) ?_ | exact is_of (by assumption) | refine gs_is ?_)), (by repeat (first | assumption | refine gs_eq ?_ | refine gs_ne (by omega) ?_ | exact is_of (by assumption) | refine gs_is ?_)), (by repeat (first | assumption | refine gs_eq ?_ | refine gs_ne (by omega) ?_ | exact is_of (by assumption) | refine gs_is ?_)), (by repeat (first | assumption | refine gs_eq ?_ | refine gs_ne (by omega) ?_ | exact is_of (by assumption) | refine gs_is ?_)), (by repeat (first | assumption | refine gs_eq ?_ | refine gs_ne (by omega) ?_ | exact is_of (by assumption) | refine gs_is ?_)), (by repeat (first | assumption | refine gs_eq ?_ | refine gs_ne (by omega) ?_ | exact is_of (by assumption) | refine gs_is ?_)), (by repeat (first | assumption | refine gs_eq ?_ | refine gs_ne (by omega) ?_ | exact is_of (by assumption) | refine gs_is ?_))⟩, fun s hs => go_bd hg hE1 hP q144 s hs, ?_, ?_, fun j hj => ?_, fun j hj => ⟨?_, ?_⟩, smH.rf⟩
             · rw [hM]; exact pk_us
             · rw [hJ]; exact pk_us
             · exact (pk_un (by omega)).trans ((pk_un (by omega)).trans (hE0 j hj))
             · exact pk_un (by omega)
             · exact pk_un (by omega))
        · obtain ⟨t, ht, et, hts⟩ := hg.2.2.2.2.resolve_left q144
          have htn : t ≠ q.2.1 := by
            intro z
            rw [z, hg.2.2.1, sd_emp] at hts
            exact sd_n6 hmv hts
          refine r_aload_n 148 dX7_go_147 rfl rfl rfl ?_
          refine r_getf 151 dX7_go_148 rfl f_X7_27.r (by repeat (first | assumption | refine gs_eq ?_ | refine gs_ne (by omega) ?_ | exact is_of (by assumption) | refine gs_is ?_)) rfl ?_
          refine r_iload 153 dX7_go_151 rfl rfl ?_
          refine r_aload_n 154 dX7_go_153 rfl rfl rfl ?_
          refine r_getf 157 dX7_go_154 rfl f_X7_51.r (by repeat (first | assumption | refine gs_eq ?_ | refine gs_ne (by omega) ?_ | exact is_of (by assumption) | refine gs_is ?_)) rfl ?_
          refine r_iload_n 158 dX7_go_157 rfl rfl ?_
          refine r_iald 159 dX7_go_158 rfl (1500 * L + k) (by repeat (first | assumption | refine gs_eq ?_ | refine gs_ne (by omega) ?_ | exact is_of (by assumption) | refine gs_is ?_)) rfl (by omega) (by decide) ?_
          rw [e5, et]
          refine r_iadd 160 dX7_go_159 rfl ?_
          rw [nI_add]
          refine r_bipush (v := (-6)) 162 dX7_go_160 rfl (by decide) ?_
          refine r_iast 163 dX7_go_162 rfl (48 * (L + 1) + t) (by repeat (first | assumption | refine gs_eq ?_ | refine gs_ne (by omega) ?_ | exact is_of (by assumption) | refine gs_is ?_)) rfl (by omega) (by decide) ?_
          have esd2 : upd sd (L + 1) (1 - mv) L = mv := (pk_un (by omega)).trans esd
          refine r_aload_n 164 dX7_go_163 rfl rfl rfl ?_
          refine r_iload_n 165 dX7_go_164 rfl rfl ?_
          refine r_iconst (v := 1) 166 dX7_go_165 rfl (by decide) ?_
          refine r_iadd 167 dX7_go_166 rfl ?_
          rw [nI_1]
          refine r_aload_n 168 dX7_go_167 rfl rfl rfl ?_
          refine r_getf 171 dX7_go_168 rfl f_X7_30.r (by repeat (first | assumption | refine gs_eq ?_ | refine gs_ne (by omega) ?_ | exact is_of (by assumption) | refine gs_is ?_)) rfl ?_
          refine r_iload_n 172 dX7_go_171 rfl rfl ?_
          refine r_iald 173 dX7_go_172 rfl (L) (by repeat (first | assumption | refine gs_eq ?_ | refine gs_ne (by omega) ?_ | exact is_of (by assumption) | refine gs_is ?_)) rfl (by omega) (by decide) ?_
          rw [esd2]
          refine r_aload_n 174 dX7_go_173 rfl rfl rfl ?_
          refine r_getf 177 dX7_go_174 rfl f_X7_48.r (by repeat (first | assumption | refine gs_eq ?_ | refine gs_ne (by omega) ?_ | exact is_of (by assumption) | refine gs_is ?_)) rfl ?_
          refine r_iload_n 178 dX7_go_177 rfl rfl ?_
          refine r_iald 179 dX7_go_178 rfl (1500 * L + k) (by repeat (first | assumption | refine gs_eq ?_ | refine gs_ne (by omega) ?_ | exact is_of (by assumption) | refine gs_is ?_)) rfl (by omega) (by decide) ?_
          rw [e4]
          have hbd := go_bdT hg hE1 hP et ht htn
          have hbd2 : bdA (upd (upd (upd E (48 * (L + 1) + q.1) (-6)) (48 * (L + 1) + q.2.1) v) (48 * (L + 1) + t) (-6), upd sd (L + 1) (1 - mv), upd ch (L + 1) (-6), hm, fr, wy, gs, gl, tk) (L + 1) (mkF f mv q) := hbd
          refine r_callV0 182 dX7_go_179 rfl (tX7_listAllJumps (by repeat (first | assumption | refine gs_eq ?_ | refine gs_ne (by omega) ?_ | exact is_of (by assumption) | refine gs_is ?_)) ⟨(by repeat (first | assumption | refine gs_eq ?_ | refine gs_ne (by omega) ?_ | exact is_of (by assumption) | refine gs_is ?_)), (by repeat (first | assumption | refine gs_eq ?_ | refine gs_ne (by omega) ?_ | exact is_of (by assumption) | refine gs_is ?_)), (by repeat (first | assumption | refine gs_eq ?_ | refine gs_ne (by omega) ?_ | exact is_of (by assumption) | refine gs_is ?_)), (by repeat (first | assumption | refine gs_eq ?_ | refine gs_ne (by omega) ?_ | exact is_of (by assumption) | refine gs_is ?_)), (by repeat (first | assumption | refine gs_eq ?_ | refine gs_ne (by omega) ?_ | exact is_of (by assumption) | refine gs_is ?_)), (by repeat (first | assumption | refine gs_eq ?_ | refine gs_ne (by omega) ?_ | exact is_of (by assumption) | refine gs_is ?_)), (by repeat (first | assumption | refine gs_eq ?_ | refine gs_ne (by omega) ?_ | exact is_of (by assumption) | refine gs_is ?_)), (by repeat (first | assumption | refine gs_eq ?_ | refine gs_ne (by omega) ?_ | exact is_of (by assumption) | refine gs_is ?_)), (by repeat (first | assumption | refine gs_eq ?_ | refine gs_ne (by omega) ?_ | exact is_of (by assumption) | refine gs_is ?_))⟩ hbd2 (mkF_ok hg hf) (by omega) hmv (lenJ hmv)) l_X7_108 mX7_listAllJumps rfl (by repeat (first | assumption | refine gs_eq ?_ | refine gs_ne (by omega) ?_ | exact is_of (by assumption) | refine gs_is ?_)) rfl (by decide) (Nat.le_of_ble_eq_true rfl) (by decide) (qN fun w2 hk => ?_)
          obtain ⟨hF2, ⟨B2, sd2, ch2, hm2, fr2, wy2, gs2, gl2, tk2⟩, hV2, hl2, hs2⟩ := hk
          obtain ⟨y49, y50, y51, y52, y53, y54, y55, y56, y57⟩ : w2[49]? = some (aI 192 B2) ∧ w2[50]? = some (aI 4 sd2) ∧ w2[51]? = some (aI 4 ch2) ∧ w2[52]? = some (aI 4 hm2) ∧ w2[53]? = some (aI 6000 fr2) ∧ w2[54]? = some (aI 6000 wy2) ∧ w2[55]? = some (aI 6000 gs2) ∧ w2[56]? = some (aI 6000 gl2) ∧ w2[57]? = some (aI 6000 tk2) := id hV2
          have eh2 : hm2 (L + 1) = nI (allJ (mkF f mv q) mv (nI q.2.1)).length := hl2.2.1
          have x1 : B2 = _ := hs2.1
          have x2 : sd2 = _ := hs2.2.1
          have x3 : ch2 = _ := hs2.2.2.1
          have hh2 := hs2.2.2.2
          have efr : gl2 (1500 * L + k) = nI q.2.1 := (hh2.2 _ (by omega)).2.2.2.1.trans e4
          have esd3 : sd2 L = mv := by rw [x2]; exact esd2
          have o2 := (hF2.2 43 (by unfold wS; omega)).trans ((by repeat (first | assumption | refine gs_eq ?_ | refine gs_ne (by omega) ?_ | exact is_of (by assumption) | refine gs_is ?_)) : _ = some (oM pm ty rm sp wr))
          refine r_aload_n 183 dX7_go_182 rfl rfl rfl ?_
          refine r_getf 186 dX7_go_183 rfl f_X7_36.r (by repeat (first | assumption | refine gs_eq ?_ | refine gs_ne (by omega) ?_ | exact is_of (by assumption) | refine gs_is ?_)) rfl ?_
          refine r_iload_n 187 dX7_go_186 rfl rfl ?_
          refine r_iconst (v := 1) 188 dX7_go_187 rfl (by decide) ?_
          refine r_iadd 189 dX7_go_188 rfl ?_
          rw [nI_1]
          refine r_iald 190 dX7_go_189 rfl (L + 1) (by repeat (first | assumption | refine gs_eq ?_ | refine gs_ne (by omega) ?_ | exact is_of (by assumption) | refine gs_is ?_)) rfl (by omega) (by decide) ?_
          rw [eh2]
          refine r_if_le 221 193 dX7_go_190 (by decide) rfl (fun q190 => ?_) (fun q190 => ?_)
          · refine r_vret dX7_go_221 rfl (by decide) (by decide) ?_
            first
            | (have hc := (canJ_len hmv hg.2.1 (mkF_to hg hf)).mp q190
               have hJ : mkJ f mv q = -6 := by unfold mkJ; rw [if_neg (fun z => hc z.2)]
               have hM : mkM f mv q = 1 - mv := by unfold mkM; rw [hJ]; rw [if_pos rfl]
               refine ⟨rfl, Fr.tr (by repeat (first | exact Fr.rf | assumption | refine Fr.tr ?_ (Fr.st (by unfold wS; decide)))) (Fr.tr hF2 (by repeat (first | exact Fr.rf | refine Fr.tr ?_ (Fr.st (by unfold wS; decide))))), (B2, sd2, ch2, hm2, fr2, wy2, gs2, gl2, tk2), ⟨(by repeat (first | assumption | refine gs_eq ?_ | refine gs_ne (by omega) ?_ | exact is_of (by assumption) | refine gs_is ?_)), (by repeat (first | assumption | refine gs_eq ?_ | refine gs_ne (by omega) ?_ | exact is_of (by assumption) | refine gs_is ?_)), (by repeat (first | assumption | refine gs_eq ?_ | refine gs_ne (by omega) ?_ | exact is_of (by assumption) | refine gs_is ?_)), (by repeat (first | assumption | refine gs_eq ?_ | refine gs_ne (by omega) ?_ | exact is_of (by assumption) | refine gs_is ?_)), (by repeat (first | assumption | refine gs_eq ?_ | refine gs_ne (by omega) ?_ | exact is_of (by assumption) | refine gs_is ?_)), (by repeat (first | assumption | refine gs_eq ?_ | refine gs_ne (by omega) ?_ | exact is_of (by assumption) | refine gs_is ?_)), (by repeat (first | assumption | refine gs_eq ?_ | refine gs_ne (by omega) ?_ | exact is_of (by assumption) | refine gs_is ?_)), (by repeat (first | assumption | refine gs_eq ?_ | refine gs_ne (by omega) ?_ | exact is_of (by assumption) | refine gs_is ?_)), (by repeat (first | assumption | refine gs_eq ?_ | refine gs_ne (by omega) ?_ | exact is_of (by assumption) | refine gs_is ?_))⟩, fun s hs => by (first | rw [x1] | skip); exact hbd s hs, ?_, ?_, fun j hj => ?_, fun j hj => ⟨?_, ?_⟩, ⟨fun j hj => hh2.1 j hj, fun j hj => hh2.2 j hj⟩⟩
               · rw [hM]; rw [x2]; exact pk_us
               · rw [hJ]; rw [x3]; exact pk_us
               · rw [x1]; exact (pk_un (by omega)).trans ((pk_un (by omega)).trans ((pk_un (by omega)).trans (hE0 j hj)))
               · rw [x2]; exact pk_un (by omega)
               · rw [x3]; exact pk_un (by omega))
            | (have hc := Classical.not_not.mp (fun z => q190 ((canJ_len hmv hg.2.1 (mkF_to hg hf)).mpr z))
               have hJ : mkJ f mv q = nI q.2.1 := by unfold mkJ; rw [if_pos ⟨q144, hc⟩]
               have hM : mkM f mv q = mv := by unfold mkM; rw [hJ]; rw [if_neg (nI_n6 (by have := hg.2.1; omega))]
               refine ⟨rfl, Fr.tr (by repeat (first | exact Fr.rf | assumption | refine Fr.tr ?_ (Fr.st (by unfold wS; decide)))) (Fr.tr hF2 (by repeat (first | exact Fr.rf | refine Fr.tr ?_ (Fr.st (by unfold wS; decide))))), (B2, upd sd2 (L + 1) mv, upd ch2 (L + 1) (nI q.2.1), hm2, fr2, wy2, gs2, gl2, tk2), ⟨(by repeat (first | assumption | refine gs_eq ?_ | refine gs_ne (by omega) ?_ | exact is_of (by assumption) | refine gs_is ?_)), (by repeat (first | assumption | refine gs_eq ?_ | refine gs_ne (by omega) ?_ | exact is_of (by assumption) | refine gs_is ?_)), (by repeat (first | assumption | refine gs_eq ?_ | refine gs_ne (by omega) ?_ | exact is_of (by assumption) | refine gs_is ?_)), (by repeat (first | assumption | refine gs_eq ?_ | refine gs_ne (by omega) ?_ | exact is_of (by assumption) | refine gs_is ?_)), (by repeat (first | assumption | refine gs_eq ?_ | refine gs_ne (by omega) ?_ | exact is_of (by assumption) | refine gs_is ?_)), (by repeat (first | assumption | refine gs_eq ?_ | refine gs_ne (by omega) ?_ | exact is_of (by assumption) | refine gs_is ?_)), (by repeat (first | assumption | refine gs_eq ?_ | refine gs_ne (by omega) ?_ | exact is_of (by assumption) | refine gs_is ?_)), (by repeat (first | assumption | refine gs_eq ?_ | refine gs_ne (by omega) ?_ | exact is_of (by assumption) | refine gs_is ?_)), (by repeat (first | assumption | refine gs_eq ?_ | refine gs_ne (by omega) ?_ | exact is_of (by assumption) | refine gs_is ?_))⟩, fun s hs => by (first | rw [x1] | skip); exact hbd s hs, ?_, ?_, fun j hj => ?_, fun j hj => ⟨?_, ?_⟩, ⟨fun j hj => hh2.1 j hj, fun j hj => hh2.2 j hj⟩⟩
               · rw [hM]; exact pk_us
               · rw [hJ]; exact pk_us
               · rw [x1]; exact (pk_un (by omega)).trans ((pk_un (by omega)).trans ((pk_un (by omega)).trans (hE0 j hj)))
               · refine (pk_un (by omega)).trans ?_; rw [x2]; exact pk_un (by omega)
               · refine (pk_un (by omega)).trans ?_; rw [x3]; exact pk_un (by omega))
            | (have hJ : mkJ f mv q = -6 := by unfold mkJ; rw [if_neg (fun z => z.1 q144)]
               have hM : mkM f mv q = 1 - mv := by unfold mkM; rw [if_pos hJ]
               refine ⟨rfl, (by repeat (first | exact Fr.rf | assumption | refine Fr.tr ?_ (Fr.st (by unfold wS; decide)))), (upd (upd E (48 * (L + 1) + q.1) (-6)) (48 * (L + 1) + q.2.1) v, upd sd (L + 1) (1 - mv), upd ch (L + 1) (-6), hm, fr, wy, gs, gl, tk), ⟨(by repeat (first | assumption | refine gs_eq ?_ | refine gs_ne (by omega) ?_ | exact is_of (by assumption) | refine gs_is ?_)), (by repeat (first | assumption | refine gs_eq ?_ | refine gs_ne (by omega) ?_ | exact is_of (by assumption) | refine gs_is ?_)), (by repeat (first | assumption | refine gs_eq ?_ | refine gs_ne (by omega) ?_ | exact is_of (by assumption) | refine gs_is ?_)), (by repeat (first | assumption | refine gs_eq ?_ | refine gs_ne (by omega) ?_ | exact is_of (by assumption) | refine gs_is ?_)), (by repeat (first | assumption | refine gs_eq ?_ | refine gs_ne (by omega) ?_ | exact is_of (by assumption) | refine gs_is ?_)), (by repeat (first | assumption | refine gs_eq ?_ | refine gs_ne (by omega) ?_ | exact is_of (by assumption) | refine gs_is ?_)), (by repeat (first | assumption | refine gs_eq ?_ | refine gs_ne (by omega) ?_ | exact is_of (by assumption) | refine gs_is ?_)), (by repeat (first | assumption | refine gs_eq ?_ | refine gs_ne (by omega) ?_ | exact is_of (by assumption) | refine gs_is ?_)), (by repeat (first | assumption | refine gs_eq ?_ | refine gs_ne (by omega) ?_ | exact is_of (by assumption) | refine gs_is ?_))⟩, fun s hs => go_bd hg hE1 hP q144 s hs, ?_, ?_, fun j hj => ?_, fun j hj => ⟨?_, ?_⟩, smH.rf⟩
               · rw [hM]; exact pk_us
               · rw [hJ]; exact pk_us
               · exact (pk_un (by omega)).trans ((pk_un (by omega)).trans (hE0 j hj))
               · exact pk_un (by omega)
               · exact pk_un (by omega))
          · refine r_aload_n 194 dX7_go_193 rfl rfl rfl ?_
            refine r_getf 197 dX7_go_194 rfl f_X7_30.r (by repeat (first | assumption | refine gs_eq ?_ | refine gs_ne (by omega) ?_ | exact is_of (by assumption) | refine gs_is ?_)) rfl ?_
            refine r_iload_n 198 dX7_go_197 rfl rfl ?_
            refine r_iconst (v := 1) 199 dX7_go_198 rfl (by decide) ?_
            refine r_iadd 200 dX7_go_199 rfl ?_
            rw [nI_1]
            refine r_aload_n 201 dX7_go_200 rfl rfl rfl ?_
            refine r_getf 204 dX7_go_201 rfl f_X7_30.r (by repeat (first | assumption | refine gs_eq ?_ | refine gs_ne (by omega) ?_ | exact is_of (by assumption) | refine gs_is ?_)) rfl ?_
            refine r_iload_n 205 dX7_go_204 rfl rfl ?_
            refine r_iald 206 dX7_go_205 rfl (L) (by repeat (first | assumption | refine gs_eq ?_ | refine gs_ne (by omega) ?_ | exact is_of (by assumption) | refine gs_is ?_)) rfl (by omega) (by decide) ?_
            rw [esd3]
            refine r_iast 207 dX7_go_206 rfl (L + 1) (by repeat (first | assumption | refine gs_eq ?_ | refine gs_ne (by omega) ?_ | exact is_of (by assumption) | refine gs_is ?_)) rfl (by omega) (by decide) ?_
            refine r_aload_n 208 dX7_go_207 rfl rfl rfl ?_
            refine r_getf 211 dX7_go_208 rfl f_X7_33.r (by repeat (first | assumption | refine gs_eq ?_ | refine gs_ne (by omega) ?_ | exact is_of (by assumption) | refine gs_is ?_)) rfl ?_
            refine r_iload_n 212 dX7_go_211 rfl rfl ?_
            refine r_iconst (v := 1) 213 dX7_go_212 rfl (by decide) ?_
            refine r_iadd 214 dX7_go_213 rfl ?_
            rw [nI_1]
            refine r_aload_n 215 dX7_go_214 rfl rfl rfl ?_
            refine r_getf 218 dX7_go_215 rfl f_X7_48.r (by repeat (first | assumption | refine gs_eq ?_ | refine gs_ne (by omega) ?_ | exact is_of (by assumption) | refine gs_is ?_)) rfl ?_
            refine r_iload_n 219 dX7_go_218 rfl rfl ?_
            refine r_iald 220 dX7_go_219 rfl (1500 * L + k) (by repeat (first | assumption | refine gs_eq ?_ | refine gs_ne (by omega) ?_ | exact is_of (by assumption) | refine gs_is ?_)) rfl (by omega) (by decide) ?_
            rw [efr]
            refine r_iast 221 dX7_go_220 rfl (L + 1) (by repeat (first | assumption | refine gs_eq ?_ | refine gs_ne (by omega) ?_ | exact is_of (by assumption) | refine gs_is ?_)) rfl (by omega) (by decide) ?_
            refine r_vret dX7_go_221 rfl (by decide) (by decide) ?_
            first
            | (have hc := (canJ_len hmv hg.2.1 (mkF_to hg hf)).mp q190
               have hJ : mkJ f mv q = -6 := by unfold mkJ; rw [if_neg (fun z => hc z.2)]
               have hM : mkM f mv q = 1 - mv := by unfold mkM; rw [hJ]; rw [if_pos rfl]
               refine ⟨rfl, Fr.tr (by repeat (first | exact Fr.rf | assumption | refine Fr.tr ?_ (Fr.st (by unfold wS; decide)))) (Fr.tr hF2 (by repeat (first | exact Fr.rf | refine Fr.tr ?_ (Fr.st (by unfold wS; decide))))), (B2, sd2, ch2, hm2, fr2, wy2, gs2, gl2, tk2), ⟨(by repeat (first | assumption | refine gs_eq ?_ | refine gs_ne (by omega) ?_ | exact is_of (by assumption) | refine gs_is ?_)), (by repeat (first | assumption | refine gs_eq ?_ | refine gs_ne (by omega) ?_ | exact is_of (by assumption) | refine gs_is ?_)), (by repeat (first | assumption | refine gs_eq ?_ | refine gs_ne (by omega) ?_ | exact is_of (by assumption) | refine gs_is ?_)), (by repeat (first | assumption | refine gs_eq ?_ | refine gs_ne (by omega) ?_ | exact is_of (by assumption) | refine gs_is ?_)), (by repeat (first | assumption | refine gs_eq ?_ | refine gs_ne (by omega) ?_ | exact is_of (by assumption) | refine gs_is ?_)), (by repeat (first | assumption | refine gs_eq ?_ | refine gs_ne (by omega) ?_ | exact is_of (by assumption) | refine gs_is ?_)), (by repeat (first | assumption | refine gs_eq ?_ | refine gs_ne (by omega) ?_ | exact is_of (by assumption) | refine gs_is ?_)), (by repeat (first | assumption | refine gs_eq ?_ | refine gs_ne (by omega) ?_ | exact is_of (by assumption) | refine gs_is ?_)), (by repeat (first | assumption | refine gs_eq ?_ | refine gs_ne (by omega) ?_ | exact is_of (by assumption) | refine gs_is ?_))⟩, fun s hs => by (first | rw [x1] | skip); exact hbd s hs, ?_, ?_, fun j hj => ?_, fun j hj => ⟨?_, ?_⟩, ⟨fun j hj => hh2.1 j hj, fun j hj => hh2.2 j hj⟩⟩
               · rw [hM]; rw [x2]; exact pk_us
               · rw [hJ]; rw [x3]; exact pk_us
               · rw [x1]; exact (pk_un (by omega)).trans ((pk_un (by omega)).trans ((pk_un (by omega)).trans (hE0 j hj)))
               · rw [x2]; exact pk_un (by omega)
               · rw [x3]; exact pk_un (by omega))
            | (have hc := Classical.not_not.mp (fun z => q190 ((canJ_len hmv hg.2.1 (mkF_to hg hf)).mpr z))
               have hJ : mkJ f mv q = nI q.2.1 := by unfold mkJ; rw [if_pos ⟨q144, hc⟩]
               have hM : mkM f mv q = mv := by unfold mkM; rw [hJ]; rw [if_neg (nI_n6 (by have := hg.2.1; omega))]
               refine ⟨rfl, Fr.tr (by repeat (first | exact Fr.rf | assumption | refine Fr.tr ?_ (Fr.st (by unfold wS; decide)))) (Fr.tr hF2 (by repeat (first | exact Fr.rf | refine Fr.tr ?_ (Fr.st (by unfold wS; decide))))), (B2, upd sd2 (L + 1) mv, upd ch2 (L + 1) (nI q.2.1), hm2, fr2, wy2, gs2, gl2, tk2), ⟨(by repeat (first | assumption | refine gs_eq ?_ | refine gs_ne (by omega) ?_ | exact is_of (by assumption) | refine gs_is ?_)), (by repeat (first | assumption | refine gs_eq ?_ | refine gs_ne (by omega) ?_ | exact is_of (by assumption) | refine gs_is ?_)), (by repeat (first | assumption | refine gs_eq ?_ | refine gs_ne (by omega) ?_ | exact is_of (by assumption) | refine gs_is ?_)), (by repeat (first | assumption | refine gs_eq ?_ | refine gs_ne (by omega) ?_ | exact is_of (by assumption) | refine gs_is ?_)), (by repeat (first | assumption | refine gs_eq ?_ | refine gs_ne (by omega) ?_ | exact is_of (by assumption) | refine gs_is ?_)), (by repeat (first | assumption | refine gs_eq ?_ | refine gs_ne (by omega) ?_ | exact is_of (by assumption) | refine gs_is ?_)), (by repeat (first | assumption | refine gs_eq ?_ | refine gs_ne (by omega) ?_ | exact is_of (by assumption) | refine gs_is ?_)), (by repeat (first | assumption | refine gs_eq ?_ | refine gs_ne (by omega) ?_ | exact is_of (by assumption) | refine gs_is ?_)), (by repeat (first | assumption | refine gs_eq ?_ | refine gs_ne (by omega) ?_ | exact is_of (by assumption) | refine gs_is ?_))⟩, fun s hs => by (first | rw [x1] | skip); exact hbd s hs, ?_, ?_, fun j hj => ?_, fun j hj => ⟨?_, ?_⟩, ⟨fun j hj => hh2.1 j hj, fun j hj => hh2.2 j hj⟩⟩
               · rw [hM]; exact pk_us
               · rw [hJ]; exact pk_us
               · rw [x1]; exact (pk_un (by omega)).trans ((pk_un (by omega)).trans ((pk_un (by omega)).trans (hE0 j hj)))
               · refine (pk_un (by omega)).trans ?_; rw [x2]; exact pk_un (by omega)
               · refine (pk_un (by omega)).trans ?_; rw [x3]; exact pk_un (by omega))
            | (have hJ : mkJ f mv q = -6 := by unfold mkJ; rw [if_neg (fun z => z.1 q144)]
               have hM : mkM f mv q = 1 - mv := by unfold mkM; rw [if_pos hJ]
               refine ⟨rfl, (by repeat (first | exact Fr.rf | assumption | refine Fr.tr ?_ (Fr.st (by unfold wS; decide)))), (upd (upd E (48 * (L + 1) + q.1) (-6)) (48 * (L + 1) + q.2.1) v, upd sd (L + 1) (1 - mv), upd ch (L + 1) (-6), hm, fr, wy, gs, gl, tk), ⟨(by repeat (first | assumption | refine gs_eq ?_ | refine gs_ne (by omega) ?_ | exact is_of (by assumption) | refine gs_is ?_)), (by repeat (first | assumption | refine gs_eq ?_ | refine gs_ne (by omega) ?_ | exact is_of (by assumption) | refine gs_is ?_)), (by repeat (first | assumption | refine gs_eq ?_ | refine gs_ne (by omega) ?_ | exact is_of (by assumption) | refine gs_is ?_)), (by repeat (first | assumption | refine gs_eq ?_ | refine gs_ne (by omega) ?_ | exact is_of (by assumption) | refine gs_is ?_)), (by repeat (first | assumption | refine gs_eq ?_ | refine gs_ne (by omega) ?_ | exact is_of (by assumption) | refine gs_is ?_)), (by repeat (first | assumption | refine gs_eq ?_ | refine gs_ne (by omega) ?_ | exact is_of (by assumption) | refine gs_is ?_)), (by repeat (first | assumption | refine gs_eq ?_ | refine gs_ne (by omega) ?_ | exact is_of (by assumption) | refine gs_is ?_)), (by repeat (first | assumption | refine gs_eq ?_ | refine gs_ne (by omega) ?_ | exact is_of (by assumption) | refine gs_is ?_)), (by repeat (first | assumption | refine gs_eq ?_ | refine gs_ne (by omega) ?_ | exact is_of (by assumption) | refine gs_is ?_))⟩, fun s hs => go_bd hg hE1 hP q144 s hs, ?_, ?_, fun j hj => ?_, fun j hj => ⟨?_, ?_⟩, smH.rf⟩
               · rw [hM]; exact pk_us
               · rw [hJ]; exact pk_us
               · exact (pk_un (by omega)).trans ((pk_un (by omega)).trans (hE0 j hj))
               · exact pk_un (by omega)
               · exact pk_un (by omega))
      refine r_iload 21 dX7_go_19 rfl rfl ?_
      refine r_bipush (v := nI 48) 23 dX7_go_21 rfl (by decide) ?_
      refine r_icmp_ge 49 26 dX7_go_23 (by decide) rfl (fun q23 => ?_) (fun q23 => absurd q23 (fun z => z (nI_le (by omega) (by omega))))
      refine r_aload_n 50 dX7_go_49 rfl rfl rfl ?_
      refine r_iload_n 51 dX7_go_50 rfl rfl ?_
      refine r_aload_n 52 dX7_go_51 rfl rfl rfl ?_
      refine r_getf 55 dX7_go_52 rfl f_X7_39.r (by repeat (first | assumption | refine gs_eq ?_ | refine gs_ne (by omega) ?_ | exact is_of (by assumption) | refine gs_is ?_)) rfl ?_
      refine r_iload_n 56 dX7_go_55 rfl rfl ?_
      refine r_iald 57 dX7_go_56 rfl (1500 * L + k) (by repeat (first | assumption | refine gs_eq ?_ | refine gs_ne (by omega) ?_ | exact is_of (by assumption) | refine gs_is ?_)) rfl (by omega) (by decide) ?_
      rw [e1]
      refine r_callV0 60 dX7_go_57 rfl (tX7_pieceAt oU hU bL1 (by omega) hg.1) l_X7_79 mX7_pieceAt rfl (by repeat (first | assumption | refine gs_eq ?_ | refine gs_ne (by omega) ?_ | exact is_of (by assumption) | refine gs_is ?_)) rfl (by decide) (Nat.le_of_ble_eq_true rfl) (by decide) (qI ?_)
      refine r_istore (ls1 := [_, _, _, _, _, _]) 62 dX7_go_60 rfl (by decide) rfl rfl ?_
      refine r_aload_n 63 dX7_go_62 rfl rfl rfl ?_
      refine r_getf 66 dX7_go_63 rfl f_X7_27.r (by repeat (first | assumption | refine gs_eq ?_ | refine gs_ne (by omega) ?_ | exact is_of (by assumption) | refine gs_is ?_)) rfl ?_
      refine r_iload 68 dX7_go_66 rfl rfl ?_
      refine r_aload_n 69 dX7_go_68 rfl rfl rfl ?_
      refine r_getf 72 dX7_go_69 rfl f_X7_39.r (by repeat (first | assumption | refine gs_eq ?_ | refine gs_ne (by omega) ?_ | exact is_of (by assumption) | refine gs_is ?_)) rfl ?_
      refine r_iload_n 73 dX7_go_72 rfl rfl ?_
      refine r_iald 74 dX7_go_73 rfl (1500 * L + k) (by repeat (first | assumption | refine gs_eq ?_ | refine gs_ne (by omega) ?_ | exact is_of (by assumption) | refine gs_is ?_)) rfl (by omega) (by decide) ?_
      rw [e1]
      refine r_iadd 75 dX7_go_74 rfl ?_
      rw [nI_add]
      refine r_bipush (v := (-6)) 77 dX7_go_75 rfl (by decide) ?_
      refine r_iast 78 dX7_go_77 rfl (48 * (L + 1) + q.1) (by repeat (first | assumption | refine gs_eq ?_ | refine gs_ne (by omega) ?_ | exact is_of (by assumption) | refine gs_is ?_)) rfl (by omega) (by decide) ?_
      refine r_aload_n 79 dX7_go_78 rfl rfl rfl ?_
      refine r_getf 82 dX7_go_79 rfl f_X7_27.r (by repeat (first | assumption | refine gs_eq ?_ | refine gs_ne (by omega) ?_ | exact is_of (by assumption) | refine gs_is ?_)) rfl ?_
      refine r_iload 84 dX7_go_82 rfl rfl ?_
      refine r_aload_n 85 dX7_go_84 rfl rfl rfl ?_
      refine r_getf 88 dX7_go_85 rfl f_X7_48.r (by repeat (first | assumption | refine gs_eq ?_ | refine gs_ne (by omega) ?_ | exact is_of (by assumption) | refine gs_is ?_)) rfl ?_
      refine r_iload_n 89 dX7_go_88 rfl rfl ?_
      refine r_iald 90 dX7_go_89 rfl (1500 * L + k) (by repeat (first | assumption | refine gs_eq ?_ | refine gs_ne (by omega) ?_ | exact is_of (by assumption) | refine gs_is ?_)) rfl (by omega) (by decide) ?_
      rw [e4]
      refine r_iadd 91 dX7_go_90 rfl ?_
      rw [nI_add]
      refine r_aload_n 92 dX7_go_91 rfl rfl rfl ?_
      refine r_iload_n 93 dX7_go_92 rfl rfl ?_
      refine r_iload_n 94 dX7_go_93 rfl rfl ?_
      refine r_callV0 97 dX7_go_94 rfl (tX7_becomesKing (W := ((upd E (48 * (L + 1) + q.1) (-6)), sd, ch, hm, fr, wy, gs, gl, tk)) (by repeat (first | assumption | refine gs_eq ?_ | refine gs_ne (by omega) ?_ | exact is_of (by assumption) | refine gs_is ?_)) ⟨(by repeat (first | assumption | refine gs_eq ?_ | refine gs_ne (by omega) ?_ | exact is_of (by assumption) | refine gs_is ?_)), (by repeat (first | assumption | refine gs_eq ?_ | refine gs_ne (by omega) ?_ | exact is_of (by assumption) | refine gs_is ?_)), (by repeat (first | assumption | refine gs_eq ?_ | refine gs_ne (by omega) ?_ | exact is_of (by assumption) | refine gs_is ?_)), (by repeat (first | assumption | refine gs_eq ?_ | refine gs_ne (by omega) ?_ | exact is_of (by assumption) | refine gs_is ?_)), (by repeat (first | assumption | refine gs_eq ?_ | refine gs_ne (by omega) ?_ | exact is_of (by assumption) | refine gs_is ?_)), (by repeat (first | assumption | refine gs_eq ?_ | refine gs_ne (by omega) ?_ | exact is_of (by assumption) | refine gs_is ?_)), (by repeat (first | assumption | refine gs_eq ?_ | refine gs_ne (by omega) ?_ | exact is_of (by assumption) | refine gs_is ?_)), (by repeat (first | assumption | refine gs_eq ?_ | refine gs_ne (by omega) ?_ | exact is_of (by assumption) | refine gs_is ?_)), (by repeat (first | assumption | refine gs_eq ?_ | refine gs_ne (by omega) ?_ | exact is_of (by assumption) | refine gs_is ?_))⟩ (bL _ sd ch (fun j hj => (pk_un (by omega)).trans (hE0 j hj))) hls (by omega) hq hg.1) l_X7_114 mX7_becomesKing rfl (by repeat (first | assumption | refine gs_eq ?_ | refine gs_ne (by omega) ?_ | exact is_of (by assumption) | refine gs_is ?_)) rfl (by decide) (Nat.le_of_ble_eq_true rfl) (by decide) (qI ?_)
      refine r_if_eq 107 100 dX7_go_97 (by decide) rfl (fun q97 => ?_) (fun q97 => ?_)
      · refine r_iload 109 dX7_go_107 rfl rfl ?_
        exact rest _ (by rw [mkP_eq hg.2.2.2.1]; first | rw [if_pos (ne_f q97)] | rw [if_neg (eq_f q97)])
      · refine r_iload 102 dX7_go_100 rfl rfl ?_
        refine r_iconst (v := 1) 103 dX7_go_102 rfl (by decide) ?_
        refine r_iadd 104 dX7_go_103 rfl ?_
        refine r_goto 109 dX7_go_104 (by decide) ?_
        exact rest _ (by rw [mkP_eq hg.2.2.2.1]; first | rw [if_pos (ne_f q97)] | rw [if_neg (eq_f q97)])
    | succ m ih =>
      intro i u E hi hF hU hE0 hE1
      have oU := (hF.2 43 (by unfold wS; omega)).trans ho
      obtain ⟨u49, u50, u51, u52, u53, u54, u55, u56, u57⟩ : u[49]? = some (aI 192 E) ∧ u[50]? = some (aI 4 sd) ∧ u[51]? = some (aI 4 ch) ∧ u[52]? = some (aI 4 hm) ∧ u[53]? = some (aI 6000 fr) ∧ u[54]? = some (aI 6000 wy) ∧ u[55]? = some (aI 6000 gs) ∧ u[56]? = some (aI 6000 gl) ∧ u[57]? = some (aI 6000 tk) := id hU
      have bL1 : bdA (E, sd, ch, hm, fr, wy, gs, gl, tk) L f := fun s hs => (hE0 _ (by omega)).trans (hb s hs)
      refine r_iload 21 dX7_go_19 rfl rfl ?_
      refine r_bipush (v := nI 48) 23 dX7_go_21 rfl (by decide) ?_
      refine r_icmp_ge 49 26 dX7_go_23 (by decide) rfl (fun q23 => absurd q23 (nI_ge (by omega) (by omega))) (fun q23 => ?_)
      refine r_aload_n 27 dX7_go_26 rfl rfl rfl ?_
      refine r_getf 30 dX7_go_27 rfl f_X7_27.r (by repeat (first | assumption | refine gs_eq ?_ | refine gs_ne (by omega) ?_ | exact is_of (by assumption) | refine gs_is ?_)) rfl ?_
      refine r_iload 32 dX7_go_30 rfl rfl ?_
      refine r_iload 34 dX7_go_32 rfl rfl ?_
      refine r_iadd 35 dX7_go_34 rfl ?_
      rw [nI_add]
      refine r_aload_n 36 dX7_go_35 rfl rfl rfl ?_
      refine r_iload_n 37 dX7_go_36 rfl rfl ?_
      refine r_iload 39 dX7_go_37 rfl rfl ?_
      refine r_callV0 42 dX7_go_39 rfl (tX7_pieceAt oU hU bL1 (by omega) (by omega)) l_X7_79 mX7_pieceAt rfl (by repeat (first | assumption | refine gs_eq ?_ | refine gs_ne (by omega) ?_ | exact is_of (by assumption) | refine gs_is ?_)) rfl (by decide) (Nat.le_of_ble_eq_true rfl) (by decide) (qI ?_)
      refine r_iast 43 dX7_go_42 rfl (48 * (L + 1) + i) (by repeat (first | assumption | refine gs_eq ?_ | refine gs_ne (by omega) ?_ | exact is_of (by assumption) | refine gs_is ?_)) rfl (by omega) (by decide) ?_
      refine r_iinc (ls1 := [_, _, _, _, _, _]) 46 dX7_go_43 rfl (by decide) rfl rfl (nI_1 i) rfl ?_
      refine r_goto 19 dX7_go_46 (by decide) ?_
      refine ih (i + 1) _ _ (by omega) (Fr.tr hF (Fr.st (by unfold wS; decide))) ⟨(by repeat (first | assumption | refine gs_eq ?_ | refine gs_ne (by omega) ?_ | exact is_of (by assumption) | refine gs_is ?_)), (by repeat (first | assumption | refine gs_eq ?_ | refine gs_ne (by omega) ?_ | exact is_of (by assumption) | refine gs_is ?_)), (by repeat (first | assumption | refine gs_eq ?_ | refine gs_ne (by omega) ?_ | exact is_of (by assumption) | refine gs_is ?_)), (by repeat (first | assumption | refine gs_eq ?_ | refine gs_ne (by omega) ?_ | exact is_of (by assumption) | refine gs_is ?_)), (by repeat (first | assumption | refine gs_eq ?_ | refine gs_ne (by omega) ?_ | exact is_of (by assumption) | refine gs_is ?_)), (by repeat (first | assumption | refine gs_eq ?_ | refine gs_ne (by omega) ?_ | exact is_of (by assumption) | refine gs_is ?_)), (by repeat (first | assumption | refine gs_eq ?_ | refine gs_ne (by omega) ?_ | exact is_of (by assumption) | refine gs_is ?_)), (by repeat (first | assumption | refine gs_eq ?_ | refine gs_ne (by omega) ?_ | exact is_of (by assumption) | refine gs_is ?_)), (by repeat (first | assumption | refine gs_eq ?_ | refine gs_ne (by omega) ?_ | exact is_of (by assumption) | refine gs_is ?_))⟩ (fun j hj => (pk_un (by omega)).trans (hE0 j hj)) (fun s hs => ?_)
      rcases Nat.lt_or_ge s i with h | h
      · exact (pk_un (by omega)).trans (hE1 s h)
      · rw [show s = i by omega]
        exact pk_us
  refine Cl.of (ls := [some (.ref 43), some (.int (nI L)), some (.int (nI k)), none, none, none]) rfl (by decide +kernel) (fun h => by cases h) (Nat.le_of_ble_eq_true rfl) rfl ?_
  refine r_sipush (v := nI 1500) 3 dX7_go_0 rfl (by decide) ?_
  refine r_iload_n 4 dX7_go_3 rfl rfl ?_
  refine r_imul 5 dX7_go_4 rfl ?_
  rw [pk_mul]
  refine r_iload_n 6 dX7_go_5 rfl rfl ?_
  refine r_iadd 7 dX7_go_6 rfl ?_
  rw [nI_add]
  refine r_istore_n (ls1 := [_, _, _, _, _, _]) 8 dX7_go_7 rfl (by decide) rfl rfl ?_
  refine r_bipush (v := nI 48) 10 dX7_go_8 rfl (by decide) ?_
  refine r_iload_n 11 dX7_go_10 rfl rfl ?_
  refine r_iconst (v := nI 1) 12 dX7_go_11 rfl (by decide) ?_
  refine r_iadd 13 dX7_go_12 rfl ?_
  rw [nI_add]
  refine r_imul 14 dX7_go_13 rfl ?_
  rw [pk_mul]
  refine r_istore (ls1 := [_, _, _, _, _, _]) 16 dX7_go_14 rfl (by decide) rfl rfl ?_
  refine r_iconst (v := nI 0) 17 dX7_go_16 rfl (by decide) ?_
  refine r_istore (ls1 := [_, _, _, _, _, _]) 19 dX7_go_17 rfl (by decide) rfl rfl ?_
  exact loop 48 0 w B (by omega) Fr.rf hW (fun _ _ => rfl) (fun s hs => by omega)

