/-! ===== what holds of every state, behind every call ===== -/
def sdK (f : Nat → Int32) (m : Nat) : Nat := pcK f (2 * m) 48 + pcK f (2 * m + 1) 48
theorem sd_pc {p : Int32} (hp : okP p) {m : Nat} (hm : m < 2) : (if p = nI (2 * m) then 1 else 0) + (if p = nI (2 * m + 1) then 1 else 0) = (if sdO p = nI m then 1 else 0 : Nat) := by
  rcases side_m hm with rfl | rfl <;> rcases hp with rfl | rfl | rfl | rfl | rfl <;> decide
theorem sdK_upd {f : Nat → Int32} {j : Nat} {p : Int32} (hj : j < 48) (hf : okP (f j)) (hp : okP p) {m : Nat} (hm : m < 2) : sdK (upd f j p) m + (if sdO (f j) = nI m then 1 else 0) = sdK f m + (if sdO p = nI m then 1 else 0) := by
  have a := pcK_upd (f := f) (i := 2 * m) (j := j) (p := p) 48
  have b := pcK_upd (f := f) (i := 2 * m + 1) (j := j) (p := p) 48
  have c := sd_pc hf hm
  have d := sd_pc hp hm
  simp only [hj, true_and] at a b
  unfold sdK
  omega
theorem sd_nn6 {m : Nat} (hm : m < 2) : ¬ sdO (-6) = nI m := by
  rcases side_m hm with rfl | rfl <;> decide
theorem sdK_mk {f : Nat → Int32} {mv : Int32} {q : HP} (hg : goQ f mv q) (hf : okF f) {m : Nat} (hm : m < 2) : sdK (mkF f mv q) m ≤ sdK f m := by
  obtain ⟨g1, g2, g3, g4, g5⟩ := id hg
  unfold mkF
  rw [plF_nI g2, plF_nI g1]
  have h1 := sdK_upd (p := -6) g1 (hf _ g1) (Or.inl rfl) hm
  rw [if_neg (sd_nn6 hm)] at h1
  have ok1 : okF (upd f q.1 (-6)) := by rw [← plF_nI g1]; exact okF_pl hf (Or.inl rfl)
  have h2 : sdK (plF (upd f q.1 (-6)) q.2.2.2.2 (-6)) m ≤ sdK (upd f q.1 (-6)) m := by
    rcases g5 with e | ⟨t, ht, e, -⟩
    · rw [e, plF_out (Or.inl (by decide))]
      exact Nat.le_refl _
    · rw [e, plF_nI ht]
      have h3 := sdK_upd (f := upd f q.1 (-6)) (p := -6) ht (ok1 t ht) (Or.inl rfl) hm
      rw [if_neg (sd_nn6 hm)] at h3
      omega
  have e2 : plF (upd f q.1 (-6)) q.2.2.2.2 (-6) q.2.1 = -6 := by
    have e1 : upd f q.1 (-6) q.2.1 = -6 := by
      by_cases e : q.2.1 = q.1
      · rw [e, pk_us]
      · rw [pk_un e]; exact g3
    rcases g5 with e | ⟨t, ht, e, -⟩
    · rw [e, plF_out (Or.inl (by decide))]
      exact e1
    · rw [e, plF_nI ht]
      by_cases e3 : q.2.1 = t
      · rw [e3, pk_us]
      · rw [pk_un e3]; exact e1
  have ok2 : okF (plF (upd f q.1 (-6)) q.2.2.2.2 (-6)) := okF_pl ok1 (Or.inl rfl)
  obtain ⟨p1, p2⟩ := mkP_ok g4 (hf _ g1)
  have h4 := sdK_upd (f := plF (upd f q.1 (-6)) q.2.2.2.2 (-6)) g2 (ok2 _ g2) p1 hm
  rw [e2, if_neg (sd_nn6 hm), p2] at h4
  rw [g4] at h1
  omega
theorem sdL_mk {f : Nat → Int32} {mv : Int32} {q : HP} (hg : goQ f mv q) (hf : okF f) (h : sdL f) : sdL (mkF f mv q) := fun m hm => Nat.le_trans (sdK_mk hg hf hm) (h m hm)
theorem sdL_set {f n : Nat → Int32} {j : Nat} {p : Int32} (hj : j < 48) (hf : okF f) (hn : nC f n) (h : sdL f) (hp : okP p) (ho : otm n p (pAt f (nI j)) = false) : sdL (plF f (nI j) p) := by
  intro m hm
  have hu := sdK_upd hj (hf j hj) hp hm
  have hl : sdK f m ≤ 16 := h m hm
  rw [plF_nI hj]
  show sdK (upd f j p) m ≤ 16
  by_cases e : sdO p = nI m
  · rw [if_pos e] at hu
    have hn6 : ¬ p = -6 := fun z => sd_nn6 hm (by rw [← z]; exact e)
    by_cases e2 : sdO (f j) = nI m
    · rw [if_pos e2] at hu
      omega
    · have hc := men_C hn hm
      unfold otm at ho
      rw [pAt_nI hj, if_neg (fun z => z.elim hn6 (fun y => e2 (y.symm.trans e))), e, hc.1, hc.2, nI_add] at ho
      have h3 := of_decide_eq_false ho
      have h4 : sdK f m < 16 := by
        rcases Nat.lt_or_ge (sdK f m) 16 with h5 | h5
        · exact h5
        · exact absurd (nI_le (a := 16) h5 (by omega)) h3
      omega
  · rw [if_neg e] at hu
    omega
theorem bg_sd {e : Bool} {F N : Nat → Int32} (h : bgFN e F N) : sdL F := by
  cases e with
  | true =>
    rw [(h.1 rfl).1]
    exact fun i hi => of_decide_eq_true (all2 (A := 2) (B := 1) (P := fun m _ => decide (pcK (fun _ => -6) (2 * m) 48 + pcK (fun _ => -6) (2 * m + 1) 48 ≤ 16)) (by decide +kernel) hi (show 0 < 1 by decide))
  | false =>
    rw [(h.2 rfl).1]
    exact fun i hi => of_decide_eq_true (all2 (A := 2) (B := 1) (P := fun m _ => decide (pcK stF (2 * m) 48 + pcK stF (2 * m + 1) 48 ≤ 16)) (by decide +kernel) hi (show 0 < 1 by decide))
theorem jud_hops {f : Nat → Int32} {mv jp qt : Int32} {ps : List T3} (hj : jjO f mv jp) (h : judO f mv ps qt = 0) : hopsC f mv jp ≠ [] := by
  unfold judO at h
  split at h
  · exact (hasH_iff hj).mp (by assumption)
  · exact absurd h wonO_nz
theorem GI.st {F N cl lo : Nat → Int32} {mv cs mk : Int32} (hf : okF F) (hn : nC F N) (hs : sdL F) (hmv : mv = 0 ∨ mv = 1) (hcl : ∀ m, m < 2 → 0 ≤ cl m) (hcs : 0 ≤ cs) : GI ((F, N, mv, -6, cl, lo, [t3O F mv (-6)], cs, mk, 0, judO F mv [t3O F mv (-6)] 0), [(F, mv, -6)]) :=
  ⟨⟨hmv, Nat.le_refl _, by show 1 ≤ 61; decide, rfl, fun _ => by show 1 ≤ 60; decide⟩, hf, hn, hs, Or.inl rfl, Or.inl rfl, rfl, fun p hp => by
    rw [List.mem_singleton] at hp
    subst hp
    exact ⟨hf, hmv, Or.inl rfl⟩, hcl, hcs, fun h => jud_hops (Or.inl rfl) h⟩
theorem sub_0 {a b : Int32} (h0 : 0 ≤ b) (h1 : b ≤ a) : 0 ≤ a - b := by
  rw [Int32.le_iff_toInt_le] at h0 h1 ⊢
  have e0 : (0 : Int32).toInt = 0 := rfl
  have hb := a.toInt_lt
  rw [e0] at h0 ⊢
  rw [Int32.toInt_sub, Int.bmod_eq_of_le (by omega) (by omega)]
  omega
theorem GI.begin {f n : Nat → Int32} {mv jp : Int32} {cl lo : Nat → Int32} {ps : List T3} {cs mk qt oc : Int32} {P : List P3} {e : Bool} {F N : Nat → Int32} (h : GI ((f, n, mv, jp, cl, lo, ps, cs, mk, qt, oc), P)) (hFN : bgFN e F N) : GI ((F, N, 0, -6, (fun _ => cs), (fun _ => 0), [t3O F 0 (-6)], cs, 0, 0, judO F 0 [t3O F 0 (-6)] 0), [(F, 0, -6)]) :=
  GI.st (bg_ok hFN) (bg_C hFN) (bg_sd hFN) (Or.inl rfl) (fun _ _ => h.2.2.2.2.2.2.2.2.2.1) h.2.2.2.2.2.2.2.2.2.1
theorem GI.set {f n : Nat → Int32} {mv jp : Int32} {cl lo : Nat → Int32} {ps : List T3} {cs mk qt oc : Int32} {P : List P3} {s p : Int32} (h : GI ((f, n, mv, jp, cl, lo, ps, cs, mk, qt, oc), P)) (hs : inI s 0 47 = true) (hp : ¬ (p ≠ -6 ∧ inI p 0 3 = false)) (ho : ¬ otm n p (pAt f s) = true) : GI ((plF f s p, plN f n s p, mv, -6, cl, (fun _ => 0), [t3O (plF f s p) mv (-6)], cs, 0, 0, judO (plF f s p) mv [t3O (plF f s p) mv (-6)] 0), [(plF f s p, mv, -6)]) := by
  obtain ⟨h1, h2, h3, h4, -, -, -, -, h9, h10, -⟩ := h
  obtain ⟨j, hj47, rfl⟩ := inI_ix (n := 47) (by decide) hs
  have hj : j < 48 := by omega
  have hpk : okP p := by
    by_cases e : p = -6
    · exact Or.inl e
    · refine inI_p ?_
      cases h9 : inI p 0 3 with
      | true => rfl
      | false => exact absurd ⟨e, h9⟩ hp
  exact GI.st (okF_pl h2 hpk) (nC_pl hj h2 hpk h3) (sdL_set hj h2 h3 h4 hpk (Bool.eq_false_iff.mpr ho)) h1.1 h9 h10
theorem GI.turn {f n : Nat → Int32} {mv jp : Int32} {cl lo : Nat → Int32} {ps : List T3} {cs mk qt oc : Int32} {P : List P3} {s : Int32} (h : GI ((f, n, mv, jp, cl, lo, ps, cs, mk, qt, oc), P)) (hs : s = 0 ∨ s = 1) : GI ((f, n, s, -6, cl, (fun _ => 0), [t3O f s (-6)], cs, 0, 0, judO f s [t3O f s (-6)] 0), [(f, s, -6)]) := by
  obtain ⟨h1, h2, h3, h4, -, -, -, -, h9, h10, -⟩ := h
  exact GI.st h2 h3 h4 hs h9 h10
theorem GI.giveUp {f n : Nat → Int32} {mv jp : Int32} {cl lo : Nat → Int32} {ps : List T3} {cs mk qt oc : Int32} {P : List P3} {x : Int32} (h : GI ((f, n, mv, jp, cl, lo, ps, cs, mk, qt, oc), P)) : GI ((f, n, mv, jp, cl, lo, ps, cs, mk, qt, wonO x), P) := by
  obtain ⟨h1, h2, h3, h4, h5, h6, h7, h8, h9, h10, -⟩ := h
  exact ⟨⟨h1.1, h1.2.1, h1.2.2.1, h1.2.2.2.1, fun z => absurd z wonO_nz⟩, h2, h3, h4, h5, h6, h7, h8, h9, h10, fun z => absurd z wonO_nz⟩
theorem GI.clock {f n : Nat → Int32} {mv jp : Int32} {cl lo : Nat → Int32} {ps : List T3} {cs mk qt oc : Int32} {P : List P3} {s : Int32} (h : GI ((f, n, mv, jp, cl, lo, ps, cs, mk, qt, oc), P)) (hs : 10 ≤ s) : GI ((f, n, mv, jp, cl, lo, ps, s, mk, qt, oc), P) := by
  obtain ⟨h1, h2, h3, h4, h5, h6, h7, h8, h9, h10, h11⟩ := h
  exact ⟨h1, h2, h3, h4, h5, h6, h7, h8, h9, Int32.le_trans (by decide) hs, h11⟩
theorem GI.hop {f n : Nat → Int32} {m : Nat} {jp : Int32} {cl lo : Nat → Int32} {ps : List T3} {cs mk qt oc : Int32} {P : List P3} {q : HP} {sec : Int32} (h : GI ((f, n, nI m, jp, cl, lo, ps, cs, mk, qt, oc), P)) (hm : m < 2) (hq : q ∈ hopsN f (nI m) jp oc) (h0 : 0 ≤ sec) : GI (hopM ((f, n, nI m, jp, cl, lo, ps, cs, mk, qt, oc), P) m q sec) := by
  obtain ⟨h1, h2, h3, h4, h5, h6, h7, h8, h9, h10, h11⟩ := id h
  have hoc : oc = 0 := hopsN_z hq
  have hqC : q ∈ hopsC f (nI m) jp := by
    unfold hopsN at hq
    rw [if_pos hoc] at hq
    exact hq
  have hg : goQ f (nI m) q := hopsC_go h1.1 hqC
  have h1' := okG.hop (q := q) (sec := sec) h1 hoc
  have h1' : okG (hopG (f, n, nI m, jp, cl, lo, ps, cs, mk, qt, oc) (nI m).toNatClampNeg q sec) := h1'
  rw [nI_clamp (by omega)] at h1'
  have h9 : ∀ m, m < 2 → 0 ≤ cl m := h9
  have h2 : okF f := h2
  have h7 : ps = P.map t3p := h7
  unfold hopM
  by_cases hs : sec ≤ cl m
  · have e : hopG (f, n, nI m, jp, cl, lo, ps, cs, mk, qt, oc) m q sec = (mkF f (nI m) q, mkN f n (nI m) q, mkM f (nI m) q, mkJ f (nI m) q, upd cl m (cl m - sec), loO lo m q, psO f (nI m) ps q, cs, mk + 1, qtO f qt q, judO (mkF f (nI m) q) (mkM f (nI m) q) (psO f (nI m) ps q) (qtO f qt q)) := by
      unfold hopG
      exact if_pos hs
    rw [if_pos (show sec ≤ ((f, n, nI m, jp, cl, lo, ps, cs, mk, qt, oc), P).1.2.2.2.2.1 m from hs)]
    rw [e] at h1' ⊢
    have hjj := mkJ_jj hg h2
    refine ⟨h1', mkF_ok hg h2, nC_mk hg h2 h3, sdL_mk hg h2 h4, hjj, ?_, psM_map (X := ((f, n, nI m, jp, cl, lo, ps, cs, mk, qt, oc), P)) h7, ?_, ?_, h10, fun z => jud_hops hjj z⟩
    · show mkJ f (nI m) q = -6 ∨ ∃ j, j < 48 ∧ mkJ f (nI m) q = nI j
      unfold mkJ
      split
      · exact Or.inr ⟨_, hg.2.1, rfl⟩
      · exact Or.inl rfl
    · intro p hp
      unfold psM at hp
      rw [List.mem_append, List.mem_singleton] at hp
      rcases hp with hp | hp
      · split at hp
        · exact h8 p hp
        · cases hp
      · subst hp
        refine ⟨mkF_ok hg h2, mkM_01 (side_01 hm), ?_⟩
        show mkJ f (nI m) q = -6 ∨ ∃ j, j < 48 ∧ mkJ f (nI m) q = nI j
        unfold mkJ
        split
        · exact Or.inr ⟨_, hg.2.1, rfl⟩
        · exact Or.inl rfl
    · intro k hk
      show 0 ≤ upd cl m (cl m - sec) k
      by_cases ek : k = m
      · rw [ek, pk_us]
        exact sub_0 h0 hs
      · rw [pk_un ek]
        exact h9 k hk
  · have e : hopG (f, n, nI m, jp, cl, lo, ps, cs, mk, qt, oc) m q sec = (f, n, nI m, jp, upd cl m 0, lo, ps, cs, mk, qt, wonO (nI (1 - m))) := by
      unfold hopG
      exact if_neg hs
    rw [if_neg (show ¬ sec ≤ ((f, n, nI m, jp, cl, lo, ps, cs, mk, qt, oc), P).1.2.2.2.2.1 m from hs)]
    rw [e] at h1' ⊢
    refine ⟨h1', h2, h3, h4, h5, h6, h7, h8, ?_, h10, fun z => absurd z wonO_nz⟩
    intro k hk
    show 0 ≤ upd cl m 0 k
    by_cases ek : k = m
    · rw [ek, pk_us]
      exact Int32.le_refl _
    · rw [pk_un ek]
      exact h9 k hk
/-- the same of the model's states -/
def tellM (X : MG) (x y jb : Int32) : Option MG := match (hpsG X.1).find? (isFT x y) with
  | none => none
  | some q => if bI (decide (¬ q.2.2.2.2 = -6)) = jb then some (hopM X X.1.2.2.1.toNatClampNeg q 0) else none
theorem tellM_1 {X : MG} {x y jb : Int32} : tellO X.1 x y jb = (tellM X x y jb).map (·.1) := by
  unfold tellO tellM
  cases (hpsG X.1).find? (isFT x y) with
  | none => rfl
  | some q =>
    show (if bI (decide (¬ q.2.2.2.2 = -6)) = jb then some (hopX X.1 q 0) else none) = Option.map (·.1) (if bI (decide (¬ q.2.2.2.2 = -6)) = jb then some (hopM X X.1.2.2.1.toNatClampNeg q 0) else none)
    split <;> rfl
theorem tellM_GI {X X1 : MG} {x y jb : Int32} (hI : GI X) (h : tellM X x y jb = some X1) : GI X1 := by
  obtain ⟨⟨f, n, mv, jp, cl, lo, ps, cs, mk, qt, oc⟩, P⟩ := X
  obtain ⟨m, hm, e, hc⟩ := side_ix hI.1.1
  have e : mv = nI m := e
  subst e
  unfold tellM at h
  split at h
  · cases h
  · next q hq =>
    split at h
    · cases h
      have hcl : (nI m).toNatClampNeg = m := hc
      show GI (hopM ((f, n, nI m, jp, cl, lo, ps, cs, mk, qt, oc), P) (nI m).toNatClampNeg q 0)
      rw [hcl]
      exact hI.hop hm (List.mem_of_find?_eq_some hq) (Int32.le_refl _)
    · cases h

