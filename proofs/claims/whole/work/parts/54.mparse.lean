/-! ===== how the model reads the pad: the words ===== -/
def letO (pf : Nat → Int32) (pn s : Nat) : Int32 := if s < pn then pf s else -6
def nuD (pf : Nat → Int32) (pn s : Nat) : Bool := inI (letO pf pn s - 48) 0 9
def nu2 (pf : Nat → Int32) (pn s : Nat) : Bool := nuD pf pn s && (decide (0 < letO pf pn s - 48) && (nuD pf pn (s + 1) && decide (10 * (letO pf pn s - 48) + (letO pf pn (s + 1) - 48) < 48)))
def nuV (pf : Nat → Int32) (pn s : Nat) : Int32 := if nu2 pf pn s = true then 10 * (letO pf pn s - 48) + (letO pf pn (s + 1) - 48) else letO pf pn s - 48
def nuS (pf : Nat → Int32) (pn s : Nat) : Nat := if nu2 pf pn s = true then s + 2 else s + 1
def nuW (pf : Nat → Int32) (pn s : Nat) : Int32 := if nuD pf pn s = true then -6 else nI s
theorem letO_lt {pf : Nat → Int32} {pn s : Nat} (h : s < pn) : letO pf pn s = pf s := if_pos h
theorem letO_ge {pf : Nat → Int32} {pn s : Nat} (h : pn ≤ s) : letO pf pn s = -6 := if_neg (by omega)
theorem dig_of {pf : Nat → Int32} {pn s : Nat} (h : nuD pf pn s = true) : s < pn ∧ ∃ d, d ≤ 9 ∧ pf s = nI (48 + d) ∧ letO pf pn s - 48 = nI d := by
  obtain ⟨d, hd, e⟩ := inI_ix (n := 9) (by decide) h
  have hs : s < pn := by
    rcases Nat.lt_or_ge s pn with h1 | h1
    · exact h1
    · exfalso
      rw [letO_ge h1] at e
      have h3 : (-6 - 48 : Int32).toInt = (nI d).toInt := by rw [e]
      rw [nI_toInt (by omega)] at h3
      have h2 : (-6 - 48 : Int32).toInt = -54 := by decide
      omega
  refine ⟨hs, d, hd, ?_, e⟩
  rw [letO_lt hs] at e
  have h4 : pf s = (pf s - 48) + 48 := (Int32.sub_add_cancel _ _).symm
  rw [h4, e, show (48 : Int32) = nI 48 from rfl, nI_add, Nat.add_comm]
theorem nI_sub' {a b : Nat} : nI (a + b) - nI b = nI a := by
  rw [← nI_add, Int32.add_sub_cancel]
theorem inI_n {a k : Nat} (ha : a < 2147483648) (hk : k < 2147483648) : inI (nI a) 0 (nI k) = decide (a ≤ k) := by
  unfold inI
  by_cases h : a ≤ k
  · rw [decide_eq_true h, decide_eq_true ⟨nI_pos' ha, nI_le h hk⟩]
  · rw [decide_eq_false h, decide_eq_false (fun z => h ((nI_leI ha hk).mp z.2))]
theorem dig_no {pf : Nat → Int32} {pn s : Nat} (h : nuD pf pn s = false) (hs : s < pn) : ¬ (48 ≤ pf s ∧ pf s ≤ 57) := by
  intro ⟨h1, h2⟩
  have h3 : inI (pf s) 0 57 = true := decide_eq_true ⟨Int32.le_trans (by decide) h1, h2⟩
  obtain ⟨j, hj, e⟩ := inI_ix (n := 57) (by decide) h3
  rw [e] at h1
  have h4 : 48 ≤ j := (nI_leI (a := 48) (b := j) (by decide) (by omega)).mp h1
  unfold nuD at h
  rw [letO_lt hs, e, show (48 : Int32) = nI 48 from rfl, show j = (j - 48) + 48 by omega, nI_sub'] at h
  rw [show (9 : Int32) = nI 9 from rfl, inI_n (by omega) (by decide), decide_eq_true (by omega)] at h
  cases h
theorem dig_a {d : Nat} (hd : d ≤ 9) : (48 : Int32) ≤ nI (48 + d) ∧ nI (48 + d) ≤ 57 := ⟨nI_le (a := 48) (by omega) (by omega), nI_le (b := 57) (by omega) (by omega)⟩
theorem dig_s (d : Nat) : nI (48 + d) - 48 = nI d := by
  rw [show (48 : Int32) = nI 48 from rfl, Nat.add_comm, nI_sub']
theorem sf_dig {pl d : Nat} {num : Int32} (hd : d ≤ 9) (hpl : pl = 0 ∨ pl = 2) : stepF pl num (nI (48 + d)) = some (pl + 1, nI d) := by
  have e : (if pl = 0 ∨ pl = 2 then (0 : Int32) else num * 10) + (nI (48 + d) - 48) = nI d := by rw [if_pos hpl, dig_s, Int32.zero_add]
  rw [st_dig (dig_a hd) (fun z => z.1 hpl) (by rw [e, show (47 : Int32) = nI 47 from rfl, inI_n (by omega) (by decide)]; exact decide_eq_true (by omega)), e, if_pos hpl]
theorem sf_dig2 {pl d v : Nat} (hd : d ≤ 9) (hpl : ¬ (pl = 0 ∨ pl = 2)) (hv : v ≤ 1000) : stepF pl (nI v) (nI (48 + d)) = if 0 < v ∧ 10 * v + d < 48 then some (pl, nI (10 * v + d)) else none := by
  have e : (if pl = 0 ∨ pl = 2 then (0 : Int32) else nI v * 10) + (nI (48 + d) - 48) = nI (10 * v + d) := by rw [if_neg hpl, dig_s, show (10 : Int32) = nI 10 from rfl, pk_mul, nI_add, Nat.mul_comm]
  by_cases h0 : v = 0
  · rw [if_neg (by omega)]
    exact st_dig0 (dig_a hd) ⟨hpl, by rw [h0]; rfl⟩
  · have hnz : ¬ (¬ (pl = 0 ∨ pl = 2) ∧ nI v = 0) := fun z => nI_ne0 (by omega) (by omega) z.2
    by_cases h1 : 10 * v + d < 48
    · rw [if_pos ⟨by omega, h1⟩, st_dig (dig_a hd) hnz (by rw [e, show (47 : Int32) = nI 47 from rfl, inI_n (by omega) (by decide)]; exact decide_eq_true (by omega)), e, if_neg hpl]
    · rw [if_neg (by omega)]
      exact st_dig1 (dig_a hd) (by rw [e, show (47 : Int32) = nI 47 from rfl, inI_n (by omega) (by decide)]; exact decide_eq_false (by omega))
theorem ff_S {pf : Nat → Int32} {pn s pl : Nat} {num : Int32} (h : s < pn) : ffO pf pn (pn - s) s pl num = match stepF pl num (pf s) with | none => nI s | some q => ffO pf pn (pn - (s + 1)) (s + 1) q.1 q.2 := by
  rw [show pn - s = (pn - (s + 1)) + 1 by omega, ffO]
  cases stepF pl num (pf s) <;> rfl
theorem ff_0 {pf : Nat → Int32} {pn s pl : Nat} {num : Int32} (hs : s ≤ pn) (h : ¬ s < pn) (hp : pl ≠ 3) : ffO pf pn (pn - s) s pl num = nI s := by
  have e : s = pn := by omega
  subst e
  rw [Nat.sub_self, ffO, if_neg hp]
/-- a digit behind a number that has ended is a fault -/
def endN (pf : Nat → Int32) (pn s pl : Nat) (num : Int32) : Prop := nuD pf pn s = true → ffO pf pn (pn - s) s pl num = nI s
theorem pa_S {pf : Nat → Int32} {pn s : Nat} {fr num : Int32} {b : Bool} {G : GS} {md : Int32} {d : Nat} (h : s < pn) (hd : d ≤ 9) (hc : pf s = nI (48 + d)) : paO pf pn (pn + 1 - s) s fr num b G md = paO pf pn (pn + 1 - (s + 1)) (s + 1) fr (num * 10 + nI d) b G md := by
  have e : sgO pf pn s = nI (48 + d) := by rw [sgO, if_pos h, hc]
  rw [show pn + 1 - s = (pn + 1 - (s + 1)) + 1 by omega, paO, e, if_neg (fun z => by have := (nI_eq (b := 44) (by omega) (by decide)).mp z; omega), if_neg (fun z => by
    rcases z with z | z
    · have := (nI_eq (b := 45) (by omega) (by decide)).mp z; omega
    · have := (nI_eq (b := 120) (by omega) (by decide)).mp z; omega), dig_s]
theorem nu2_of {pf : Nat → Int32} {pn s d e : Nat} (h0 : nuD pf pn s = true) (h1 : nuD pf pn (s + 1) = true) (hd : letO pf pn s - 48 = nI d) (he : letO pf pn (s + 1) - 48 = nI e) (d9 : d ≤ 9) (e9 : e ≤ 9) : nu2 pf pn s = decide (0 < d ∧ 10 * d + e < 48) := by
  unfold nu2
  rw [h0, h1, hd, he, show (10 : Int32) = nI 10 from rfl, show (48 : Int32) = nI 48 from rfl, show (0 : Int32) = nI 0 from rfl, pk_mul, nI_add, Bool.true_and, Bool.true_and, ← Bool.decide_and]
  exact decide_eq_decide.mpr (and_congr (nI_ltI (by decide) (by omega)) (nI_ltI (by omega) (by decide)))
theorem num_no {pf : Nat → Int32} {pn s pl : Nat} {num : Int32} (hs : s ≤ pn) (hpl : pl = 0 ∨ pl = 2) (h : nuD pf pn s = false) : ffO pf pn (pn - s) s pl num = nI s := by
  rcases Nat.lt_or_ge s pn with h1 | h1
  · rw [ff_S h1, st_bad (dig_no h h1) (fun z => by omega) (fun z => by omega)]
  · exact ff_0 hs (by omega) (by omega)
theorem num_yes {pf : Nat → Int32} {pn s pl : Nat} {num : Int32} (hpl : pl = 0 ∨ pl = 2) (h : nuD pf pn s = true) : s + 1 ≤ nuS pf pn s ∧ nuS pf pn s ≤ pn ∧ ffO pf pn (pn - s) s pl num = ffO pf pn (pn - nuS pf pn s) (nuS pf pn s) (pl + 1) (nuV pf pn s) ∧ endN pf pn (nuS pf pn s) (pl + 1) (nuV pf pn s) ∧ ∀ fr b G md, paO pf pn (pn + 1 - s) s fr 0 b G md = paO pf pn (pn + 1 - nuS pf pn s) (nuS pf pn s) fr (nuV pf pn s) b G md := by
  obtain ⟨hs, d, hd, hc, hv⟩ := dig_of h
  have hp1 : ¬ (pl + 1 = 0 ∨ pl + 1 = 2) := by omega
  have e1 : ffO pf pn (pn - s) s pl num = ffO pf pn (pn - (s + 1)) (s + 1) (pl + 1) (nI d) := by
    rw [ff_S hs, hc, sf_dig hd hpl]
  have p1 : ∀ fr b G md, paO pf pn (pn + 1 - s) s fr 0 b G md = paO pf pn (pn + 1 - (s + 1)) (s + 1) fr (nI d) b G md := by
    intro fr b G md
    rw [pa_S hs hd hc, Int32.zero_mul, Int32.zero_add]
  cases h2 : nu2 pf pn s with
  | false =>
    have hS : nuS pf pn s = s + 1 := by rw [nuS, h2]; rfl
    have hV : nuV pf pn s = nI d := by rw [nuV, h2, ← hv]; rfl
    rw [hS, hV]
    refine ⟨Nat.le_refl _, hs, e1, fun h3 => ?_, p1⟩
    obtain ⟨hs1, e, he, hce, hve⟩ := dig_of h3
    rw [nu2_of h h3 hv hve hd he] at h2
    rw [ff_S hs1, hce, sf_dig2 he hp1 (by omega), if_neg (of_decide_eq_false h2)]
  | true =>
    have h3 : nuD pf pn (s + 1) = true := by
      unfold nu2 at h2
      simp only [Bool.and_eq_true] at h2
      exact h2.2.2.1
    obtain ⟨hs1, e, he, hce, hve⟩ := dig_of h3
    have hS : nuS pf pn s = s + 2 := by rw [nuS, h2]; rfl
    have hV : nuV pf pn s = nI (10 * d + e) := by
      rw [nuV, if_pos h2, hv, hve, show (10 : Int32) = nI 10 from rfl, pk_mul, nI_add]
    rw [nu2_of h h3 hv hve hd he] at h2
    have h9 := of_decide_eq_true h2
    rw [hS, hV]
    refine ⟨by omega, hs1, ?_, fun h4 => ?_, fun fr b G md => ?_⟩
    · rw [e1, ff_S hs1, hce, sf_dig2 he hp1 (by omega), if_pos h9]
    · obtain ⟨hs2, g, hg, hcg, hvg⟩ := dig_of h4
      rw [ff_S hs2, hcg, sf_dig2 hg hp1 (by omega), if_neg (by omega)]
    · rw [p1, pa_S hs1 he hce, show (10 : Int32) = nI 10 from rfl, pk_mul, nI_add, Nat.mul_comm d 10]
theorem ff_num {pf : Nat → Int32} {pn m i pl : Nat} {a b : Int32} (hpl : pl = 0 ∨ pl = 2) : ffO pf pn m i pl a = ffO pf pn m i pl b := by
  cases m with
  | zero => rfl
  | succ m =>
    unfold ffO
    have e : stepF pl a (pf i) = stepF pl b (pf i) ∨ ((stepF pl a (pf i)).isSome = true ∧ False) := by
      left
      unfold stepF
      split
      · have ha : ¬ (¬ (pl = 0 ∨ pl = 2) ∧ a = 0) := fun z => z.1 hpl
        have hb : ¬ (¬ (pl = 0 ∨ pl = 2) ∧ b = 0) := fun z => z.1 hpl
        simp only [if_neg ha, if_neg hb, if_pos hpl]
      · rw [if_neg (fun z => by omega), if_neg (fun z => by omega), if_neg (fun z => by omega), if_neg (fun z => by omega)]
    rcases e with e | e
    · rw [e]
    · exact e.2.elim
/-- the sign between the squares of a hop -/
theorem sep_yes {pf : Nat → Int32} {pn s : Nat} {v : Int32} (h : letO pf pn s = 120 ∨ letO pf pn s = 45) : s < pn ∧ ffO pf pn (pn - s) s 1 v = ffO pf pn (pn - (s + 1)) (s + 1) 2 0 ∧ ∀ fr b G md, paO pf pn (pn + 1 - s) s fr v b G md = paO pf pn (pn + 1 - (s + 1)) (s + 1) v 0 (decide (letO pf pn s = 120)) G md := by
  have hs : s < pn := by
    rcases Nat.lt_or_ge s pn with h1 | h1
    · exact h1
    · rw [letO_ge h1] at h
      exact absurd h (by decide)
  rw [letO_lt hs] at h ⊢
  have hnd : ¬ (48 ≤ pf s ∧ pf s ≤ 57) := by
    rcases h with h | h <;> rw [h] <;> decide
  have e : sgO pf pn s = pf s := by rw [sgO, if_pos hs]
  refine ⟨hs, ?_, fun fr b G md => ?_⟩
  · rw [ff_S hs, st_sep hnd rfl h.symm]
    exact ff_num (Or.inr rfl)
  · rw [show pn + 1 - s = (pn + 1 - (s + 1)) + 1 by omega, paO, e, if_neg (by rcases h with h | h <;> rw [h] <;> decide), if_pos h.symm]
theorem sep_no {pf : Nat → Int32} {pn s : Nat} {v : Int32} (hs : s ≤ pn) (he : endN pf pn s 1 v) (h : ¬ (letO pf pn s = 120 ∨ letO pf pn s = 45)) : ffO pf pn (pn - s) s 1 v = nI s := by
  cases hd : nuD pf pn s with
  | true => exact he hd
  | false =>
    rcases Nat.lt_or_ge s pn with h1 | h1
    · rw [letO_lt h1] at h
      rw [ff_S h1, st_bad (dig_no hd h1) (fun z => h z.2.symm) (fun z => by omega)]
    · exact ff_0 hs (by omega) (by omega)
theorem com_yes {pf : Nat → Int32} {pn s : Nat} {v : Int32} (h : letO pf pn s = 44) : s < pn ∧ ffO pf pn (pn - s) s 3 v = ffO pf pn (pn - (s + 1)) (s + 1) 0 0 := by
  have hs : s < pn := by
    rcases Nat.lt_or_ge s pn with h1 | h1
    · exact h1
    · rw [letO_ge h1] at h
      exact absurd h (by decide)
  rw [letO_lt hs] at h
  refine ⟨hs, ?_⟩
  rw [ff_S hs, st_com (by rw [h]; decide) rfl h]
  exact ff_num (Or.inl rfl)
theorem com_no {pf : Nat → Int32} {pn s : Nat} {v : Int32} (h1 : s < pn) (he : endN pf pn s 3 v) (h : ¬ letO pf pn s = 44) : ffO pf pn (pn - s) s 3 v = nI s := by
  cases hd : nuD pf pn s with
  | true => exact he hd
  | false =>
    rw [letO_lt h1] at h
    rw [ff_S h1, st_bad (dig_no hd h1) (fun z => by omega) (fun z => h z.2)]
/-- the hops that were read, played one behind another -/
def plK (rd : Nat → Int32) : Nat → Nat → (GS → Int32 → Int32 × GS) → GS → Int32 → Int32 × GS
  | 0, _, K, G, md => K G md
  | m + 1, i, K, G, md => match tellO G (rd (3 * i)) (rd (3 * i + 2)) (rd (3 * i + 1)) with | none => (md, G) | some G1 => plK rd m (i + 1) K G1 (md + 1)
theorem plK_snoc {rd : Nat → Int32} {K : GS → Int32 → Int32 × GS} : ∀ (m i : Nat) (G : GS) (md : Int32), plK rd (m + 1) i K G md = plK rd m i (fun G md => match tellO G (rd (3 * (i + m))) (rd (3 * (i + m) + 2)) (rd (3 * (i + m) + 1)) with | none => (md, G) | some G1 => K G1 (md + 1)) G md
  | 0, i, G, md => rfl
  | m + 1, i, G, md => by
    rw [plK, plK]
    cases tellO G (rd (3 * i)) (rd (3 * i + 2)) (rd (3 * i + 1)) with
    | none => rfl
    | some G1 =>
      show plK rd (m + 1) (i + 1) K G1 (md + 1) = _
      rw [plK_snoc m (i + 1) G1 (md + 1), show i + 1 + m = i + (m + 1) by omega]
theorem plK_cg {rd re : Nat → Int32} {K L : GS → Int32 → Int32 × GS} : ∀ (m i : Nat) (_ : ∀ k, k < 3 * (i + m) → rd k = re k) (_ : ∀ G md, K G md = L G md) (G : GS) (md : Int32), plK rd m i K G md = plK re m i L G md
  | 0, i, _, h2, G, md => h2 G md
  | m + 1, i, h1, h2, G, md => by
    rw [plK, plK, h1 (3 * i) (by omega), h1 (3 * i + 2) (by omega), h1 (3 * i + 1) (by omega)]
    cases tellO G (re (3 * i)) (re (3 * i + 2)) (re (3 * i + 1)) with
    | none => rfl
    | some G1 => exact plK_cg m (i + 1) (fun k hk => h1 k (by omega)) h2 G1 (md + 1)
/-- one more hop, behind it a comma -/
theorem pa_com {pf : Nat → Int32} {pn s : Nat} {a c : Int32} {b : Bool} {G : GS} {md : Int32} (hs : s ≤ pn) (h : letO pf pn s = 44 ∨ s = pn) : paO pf pn (pn + 1 - s) s a c b G md = match tellO G a c (bI b) with | none => (md, G) | some G1 => paO pf pn (pn + 1 - (s + 1)) (s + 1) a 0 b G1 (md + 1) := by
  have e : sgO pf pn s = 44 := by
    rcases Nat.lt_or_ge s pn with h1 | h1
    · rw [letO_lt h1] at h
      rw [sgO, if_pos h1]
      exact h.resolve_right (by omega)
    · rw [sgO, if_neg (by omega)]
  rw [show pn + 1 - s = (pn + 1 - (s + 1)) + 1 by omega, paO, if_pos e]
  cases tellO G a c (bI b) <;> rfl
theorem pa_end {pf : Nat → Int32} {pn : Nat} {a c : Int32} {b : Bool} {G : GS} {md : Int32} : paO pf pn (pn + 1 - (pn + 1)) (pn + 1) a c b G md = (md, G) := by
  rw [Nat.sub_self, paO]

