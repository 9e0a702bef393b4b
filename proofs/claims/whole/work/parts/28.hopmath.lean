/-! ===== the hops of a list: where they come from; there are at most 192 ===== -/
theorem ld_mem {f : Nat → Int32} {s way : Nat} {t : Int32} {q : HP} : ∀ (n k : Nat), q ∈ ld f s way t n k → ∃ j, k ≤ j ∧ j < k + n ∧ q = (s, nk s way j, way, j, t) ∧ ∀ i, k ≤ i → i ≤ j → f (nk s way i) = -6
  | 0, k, h => by simp [ld] at h
  | n + 1, k, h => by
    unfold ld at h
    split at h
    · next h0 =>
      rcases List.mem_cons.mp h with h | h
      · exact ⟨k, Nat.le_refl _, by omega, h, fun i a b => by rw [show i = k by omega]; exact h0⟩
      · obtain ⟨j, h1, h2, h3, h4⟩ := ld_mem n (k + 1) h
        refine ⟨j, by omega, by omega, h3, fun i a b => ?_⟩
        rcases Nat.lt_or_ge k i with h5 | h5
        · exact h4 i h5 b
        · rw [show i = k by omega]; exact h0
    · simp at h
theorem fe_emp (f : Nat → Int32) (s way : Nat) : ∀ (n k i : Nat), k ≤ i → i < fe f s way n k → f (nk s way i) = -6
  | 0, k, i, h1, h2 => by unfold fe at h2; omega
  | n + 1, k, i, h1, h2 => by
    unfold fe at h2
    split at h2
    · next h0 =>
      rcases Nat.lt_or_ge k i with h5 | h5
      · exact fe_emp f s way n (k + 1) i h5 h2
      · rw [show i = k by omega]; exact h0
    · omega
theorem prey_pos {f : Nat → Int32} {s way : Nat} (h : 0 < prey f s way) : mayG (f s) (nI way) = true ∧ prey f s way = feK f s way ∧ sdO (f (nk s way (prey f s way))) = 1 - sdO (f s) ∧ f (nk s way (prey f s way + 1)) = -6 ∧ ∀ i, 1 ≤ i → i < prey f s way → f (nk s way i) = -6 := by
  by_cases hm : mayG (f s) (nI way) = true
  · by_cases h1 : sdO (f (nk s way (feK f s way))) = 1 - sdO (f s)
    · by_cases h2 : f (nk s way (feK f s way + 1)) = -6
      · have e := prey_yes hm h1 h2
        rw [e]
        exact ⟨hm, rfl, h1, h2, fun i a b => fe_emp f s way _ 1 i a b⟩
      · rw [prey_n2 h2] at h; omega
    · rw [prey_n1 h1] at h; omega
  · rw [prey_no (by simpa using hm)] at h; omega
theorem sd_emp : sdO (-6) = -6 := by decide
/-- what is known of a hop of a side -/
def PH (f : Nat → Int32) (side : Int32) (q : HP) : Prop := q.1 < 48 ∧ q.2.2.1 < 4 ∧ 1 ≤ q.2.2.2.1 ∧ q.2.2.2.1 ≤ 23 ∧ q.2.1 = nk q.1 q.2.2.1 q.2.2.2.1 ∧ sdO (f q.1) = side ∧ ∀ d, 1 ≤ d → d ≤ q.2.2.2.1 → f (nk q.1 q.2.2.1 d) = -6 ∨ sdO (f (nk q.1 q.2.2.1 d)) = 1 - side
theorem jAt_PH {f : Nat → Int32} {s way : Nat} {q : HP} (hs : s < 48) (hw : way < 4) (h : q ∈ jAt f s way) : PH f (sdO (f s)) q ∧ q.1 = s ∧ q.2.2.1 = way := by
  unfold jAt at h
  split at h
  · next h0 =>
    have h22 := prey_le f s way
    obtain ⟨p1, p2, p3, p4, p5⟩ := prey_pos h0
    obtain ⟨j, h1, h2, h3, h4⟩ := ld_mem _ _ h
    subst h3
    have hj : j ≤ 23 := by
      split at h2 <;> omega
    refine ⟨⟨hs, hw, by show 1 ≤ j; omega, hj, rfl, rfl, fun d a b => ?_⟩, rfl, rfl⟩
    rcases Nat.lt_trichotomy d (prey f s way) with h5 | h5 | h5
    · exact Or.inl (p5 d a h5)
    · subst h5; exact Or.inr p3
    · exact Or.inl (h4 d h5 b)
  · simp at h
theorem mAt_PH {f : Nat → Int32} {s way : Nat} {q : HP} (hs : s < 48) (hw : way < 4) (h : q ∈ mAt f s way) : PH f (sdO (f s)) q ∧ q.1 = s ∧ q.2.2.1 = way := by
  unfold mAt at h
  split at h
  · obtain ⟨j, h1, h2, h3, h4⟩ := ld_mem _ _ h
    subst h3
    have hj : j ≤ 23 := by
      split at h2 <;> omega
    exact ⟨⟨hs, hw, by show 1 ≤ j; omega, hj, rfl, rfl, fun d a b => Or.inl (h4 d (by omega) b)⟩, rfl, rfl⟩
  · simp at h
theorem PH_key {f : Nat → Int32} {side : Int32} (hsd : side = 0 ∨ side = 1) {a b : HP} (ha : PH f side a) (hb : PH f side b) (e1 : a.2.1 = b.2.1) (e2 : a.2.2.1 = b.2.2.1) (hle : a.2.2.2.1 ≤ b.2.2.2.1) : a.1 = b.1 ∧ a.2.2.2.1 = b.2.2.2.1 := by
  obtain ⟨a1, a2, a3, a4, a5, a6, a7⟩ := ha
  obtain ⟨b1, b2, b3, b4, b5, b6, b7⟩ := hb
  rw [a5, b5, ← e2] at e1
  have h1 : nk b.1 a.2.2.1 b.2.2.2.1 = nk (nk b.1 a.2.2.1 (b.2.2.2.1 - a.2.2.2.1)) a.2.2.1 a.2.2.2.1 := by rw [nk_add]; congr 1; omega
  rw [h1] at e1
  have h2 := nk_inj a2 _ a1 (nk_lt b1) e1
  rcases Nat.eq_zero_or_pos (b.2.2.2.1 - a.2.2.2.1) with h3 | h3
  · rw [h3] at h2
    exact ⟨h2, by omega⟩
  · exfalso
    have h4 := b7 (b.2.2.2.1 - a.2.2.2.1) h3 (by omega)
    rw [← e2, ← h2] at h4
    rcases h4 with h4 | h4
    · rw [h4, sd_emp] at a6
      rcases hsd with h | h <;> rw [h] at a6 <;> exact absurd a6 (by decide)
    · rw [a6] at h4
      rcases hsd with h | h <;> rw [h] at h4 <;> exact absurd h4 (by decide)
def kyO (q : HP) : Nat := q.2.1 * 4 + q.2.2.1
def dfO (a b : HP) : Prop := a.1 ≠ b.1 ∨ a.2.2.1 ≠ b.2.2.1 ∨ a.2.2.2.1 ≠ b.2.2.2.1
theorem ky_ne {f : Nat → Int32} {side : Int32} (hsd : side = 0 ∨ side = 1) {a b : HP} (ha : PH f side a) (hb : PH f side b) (hd : dfO a b) : kyO a ≠ kyO b := by
  intro e
  unfold kyO at e
  have h1 := ha.2.1
  have h2 := hb.2.1
  have e1 : a.2.1 = b.2.1 := by omega
  have e2 : a.2.2.1 = b.2.2.1 := by omega
  unfold dfO at hd
  rcases Nat.le_total a.2.2.2.1 b.2.2.2.1 with h | h
  · have := PH_key hsd ha hb e1 e2 h
    omega
  · have := PH_key hsd hb ha e1.symm e2.symm h
    omega
theorem ld_pw {f : Nat → Int32} {s way : Nat} {t : Int32} : ∀ (n k : Nat), List.Pairwise dfO (ld f s way t n k)
  | 0, k => List.Pairwise.nil
  | n + 1, k => by
    unfold ld
    split
    · refine List.Pairwise.cons (fun q hq => ?_) (ld_pw n (k + 1))
      obtain ⟨j, h1, h2, h3, h4⟩ := ld_mem _ _ hq
      subst h3
      exact Or.inr (Or.inr (by show k ≠ j; omega))
    · exact List.Pairwise.nil
theorem fm_pw {R : HP → HP → Prop} {g : Nat → List HP} : ∀ (n : Nat), (∀ i, i < n → List.Pairwise R (g i)) → (∀ i j a b, i < j → j < n → a ∈ g i → b ∈ g j → R a b) → List.Pairwise R ((List.range n).flatMap g)
  | 0, _, _ => List.Pairwise.nil
  | n + 1, h1, h2 => by
    rw [fm_s]
    refine List.pairwise_append.mpr ⟨fm_pw n (fun i hi => h1 i (by omega)) (fun i j a b x y => h2 i j a b x (by omega)), h1 n (by omega), fun a ha b hb => ?_⟩
    obtain ⟨i, hi, ha⟩ := List.mem_flatMap.mp ha
    exact h2 i n a b (List.mem_range.mp hi) (by omega) ha hb
theorem fm_mem {g : Nat → List HP} {n : Nat} {q : HP} (h : q ∈ (List.range n).flatMap g) : ∃ i, i < n ∧ q ∈ g i := by
  obtain ⟨i, hi, ha⟩ := List.mem_flatMap.mp h
  exact ⟨i, List.mem_range.mp hi, ha⟩
theorem jSq_mem {f : Nat → Int32} {side cj : Int32} {s : Nat} {q : HP} (h : q ∈ jSq f side cj s) : sdO (f s) = side ∧ (cj = -6 ∨ cj = nI s) ∧ ∃ way, way < 4 ∧ q ∈ jAt f s way := by
  unfold jSq at h
  split at h
  · next h0 =>
    obtain ⟨way, hw, hq⟩ := fm_mem h
    exact ⟨h0.1, h0.2, way, hw, hq⟩
  · simp at h
theorem mSq_mem {f : Nat → Int32} {side : Int32} {s : Nat} {q : HP} (h : q ∈ mSq f side s) : sdO (f s) = side ∧ ∃ way, way < 4 ∧ q ∈ mAt f s way := by
  unfold mSq at h
  split at h
  · next h0 =>
    obtain ⟨way, hw, hq⟩ := fm_mem h
    exact ⟨h0, way, hw, hq⟩
  · simp at h
theorem allJ_PH {f : Nat → Int32} {side cj : Int32} {q : HP} (h : q ∈ allJ f side cj) : PH f side q := by
  obtain ⟨s, hs, hq⟩ := fm_mem h
  obtain ⟨h1, -, way, hw, hq⟩ := jSq_mem hq
  rw [← h1]
  exact (jAt_PH hs hw hq).1
theorem allM_PH {f : Nat → Int32} {side : Int32} {q : HP} (h : q ∈ allM f side) : PH f side q := by
  obtain ⟨s, hs, hq⟩ := fm_mem h
  obtain ⟨h1, way, hw, hq⟩ := mSq_mem hq
  rw [← h1]
  exact (mAt_PH hs hw hq).1
theorem hopsC_PH {f : Nat → Int32} {mv jp : Int32} {q : HP} (h : q ∈ hopsC f mv jp) : PH f mv q := by
  unfold hopsC at h
  split at h
  · exact allM_PH h
  · exact allJ_PH h
theorem jSq_pw {f : Nat → Int32} {side cj : Int32} {s : Nat} (hs : s < 48) : List.Pairwise dfO (jSq f side cj s) := by
  unfold jSq
  split
  · refine fm_pw 4 (fun i _ => ?_) (fun i j a b hij hj ha hb => ?_)
    · unfold jAt
      split
      · exact ld_pw _ _
      · exact List.Pairwise.nil
    · have h1 := (jAt_PH hs (by omega) ha).2.2
      have h2 := (jAt_PH hs hj hb).2.2
      exact Or.inr (Or.inl (by omega))
  · exact List.Pairwise.nil
theorem mSq_pw {f : Nat → Int32} {side : Int32} {s : Nat} (hs : s < 48) : List.Pairwise dfO (mSq f side s) := by
  unfold mSq
  split
  · refine fm_pw 4 (fun i _ => ?_) (fun i j a b hij hj ha hb => ?_)
    · unfold mAt
      split
      · exact ld_pw _ _
      · exact List.Pairwise.nil
    · have h1 := (mAt_PH hs (by omega) ha).2.2
      have h2 := (mAt_PH hs hj hb).2.2
      exact Or.inr (Or.inl (by omega))
  · exact List.Pairwise.nil
theorem allJ_pw {f : Nat → Int32} {side cj : Int32} : List.Pairwise dfO (allJ f side cj) := by
  refine fm_pw 48 (fun i hi => jSq_pw hi) (fun i j a b hij hj ha hb => ?_)
  obtain ⟨-, -, w1, hw1, ha⟩ := jSq_mem ha
  obtain ⟨-, -, w2, hw2, hb⟩ := jSq_mem hb
  have h1 := (jAt_PH (by omega) hw1 ha).2.1
  have h2 := (jAt_PH hj hw2 hb).2.1
  exact Or.inl (by omega)
theorem allM_pw {f : Nat → Int32} {side : Int32} : List.Pairwise dfO (allM f side) := by
  refine fm_pw 48 (fun i hi => mSq_pw hi) (fun i j a b hij hj ha hb => ?_)
  obtain ⟨-, w1, hw1, ha⟩ := mSq_mem ha
  obtain ⟨-, w2, hw2, hb⟩ := mSq_mem hb
  have h1 := (mAt_PH (by omega) hw1 ha).2.1
  have h2 := (mAt_PH hj hw2 hb).2.1
  exact Or.inl (by omega)
theorem holes : ∀ (m : Nat) (l : List Nat), (∀ x ∈ l, x < m) → List.Pairwise (· ≠ ·) l → l.length ≤ m
  | 0, l, h, _ => by
    cases l with
    | nil => exact Nat.le_refl _
    | cons a t => exact absurd (h a List.mem_cons_self) (Nat.not_lt_zero _)
  | m + 1, l, h, hp => by
    have h1 : (l.filter (fun x => decide (x ≠ m))).length ≤ m := by
      refine holes m _ (fun x hx => ?_) (hp.sublist List.filter_sublist)
      have h2 := List.mem_filter.mp hx
      have h3 := h x h2.1
      have h4 : x ≠ m := of_decide_eq_true h2.2
      omega
    have h2 : l.length ≤ (l.filter (fun x => decide (x ≠ m))).length + 1 := by
      clear h h1
      induction l with
      | nil => exact Nat.zero_le _
      | cons a t ih =>
        have hp' := List.pairwise_cons.mp hp
        by_cases e : a = m
        · subst e
          have h5 : t.filter (fun x => decide (x ≠ a)) = t := List.filter_eq_self.mpr (fun x hx => decide_eq_true (Ne.symm (hp'.1 x hx)))
          rw [List.filter_cons_of_neg (by simp), h5, List.length_cons]
          exact Nat.le_refl _
        · rw [List.filter_cons_of_pos (by simp [e]), List.length_cons, List.length_cons]
          have := ih hp'.2
          omega
    omega
theorem len_of {f : Nat → Int32} {side : Int32} (hsd : side = 0 ∨ side = 1) {l : List HP} (h1 : ∀ q ∈ l, PH f side q) (h2 : List.Pairwise dfO l) : l.length ≤ 192 := by
  rw [← List.length_map (f := kyO)]
  refine holes 192 _ (fun x hx => ?_) ?_
  · obtain ⟨q, hq, rfl⟩ := List.mem_map.mp hx
    obtain ⟨a1, a2, a3, a4, a5, a6, a7⟩ := h1 q hq
    have h3 : q.2.1 < 48 := by rw [a5]; exact nk_lt a1
    unfold kyO
    omega
  · rw [List.pairwise_map]
    refine List.Pairwise.imp_of_mem (fun {a b} ha hb hd => ?_) h2
    exact ky_ne hsd (h1 a ha) (h1 b hb) hd
theorem lenJ {f : Nat → Int32} {side cj : Int32} (hsd : side = 0 ∨ side = 1) : (allJ f side cj).length ≤ 192 := len_of hsd (fun _ h => allJ_PH h) allJ_pw
theorem lenM {f : Nat → Int32} {side : Int32} (hsd : side = 0 ∨ side = 1) : (allM f side).length ≤ 192 := len_of hsd (fun _ h => allM_PH h) allM_pw
theorem lenC {f : Nat → Int32} {mv jp : Int32} (hsd : mv = 0 ∨ mv = 1) : (hopsC f mv jp).length ≤ 192 := by
  unfold hopsC
  split
  · exact lenM hsd
  · exact lenJ hsd
