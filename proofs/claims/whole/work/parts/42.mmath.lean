/-! ===== positions as numbers, counts of pieces, when there is a hop ===== -/
abbrev P3 : Type := (Nat → Int32) × Int32 × Int32
def t3p (p : P3) : T3 := t3O p.1 p.2.1 p.2.2
def sqc (f : Nat → Int32) : Nat → Nat → Int32 → Int32
  | 0, _, c => c
  | n + 1, s, c => sqc f n (s + 1) (5 * c + (if f s = -6 then 4 else f s))
def encP (p : P3) (k : Nat) : Int32 := if k < 5 then sqc p.1 (min 10 (48 - 10 * k)) (10 * k) 0 else 100 * p.2.1 + p.2.2
def okp3 (p : P3) : Prop := okF p.1 ∧ (p.2.1 = 0 ∨ p.2.1 = 1) ∧ (p.2.2 = -6 ∨ ∃ j, j < 48 ∧ p.2.2 = nI j)
def eqP (p q : P3) : Prop := (∀ s, s < 48 → p.1 s = q.1 s) ∧ p.2.1 = q.2.1 ∧ p.2.2 = q.2.2
/-- a piece as a digit -/
def dg (p : Int32) : Nat := if p = -6 then 4 else p.toNatClampNeg
theorem dg_lt {p : Int32} (h : okP p) : dg p < 5 := by
  rcases h with rfl | rfl | rfl | rfl | rfl <;> decide
theorem dg_nI {p : Int32} (h : okP p) : (if p = -6 then 4 else p) = nI (dg p) := by
  rcases h with rfl | rfl | rfl | rfl | rfl <;> decide
theorem dg_inj {p q : Int32} (h : okP p) (k : okP q) (e : dg p = dg q) : p = q := by
  have h1 : (if p = -6 then 4 else p) = (if q = -6 then 4 else q) := by rw [dg_nI h, dg_nI k, e]
  rcases h with rfl | rfl | rfl | rfl | rfl <;> rcases k with rfl | rfl | rfl | rfl | rfl <;> first | rfl | exact absurd h1 (by decide)
def bsN (B : Nat) (f : Nat → Int32) : Nat → Nat → Nat → Nat
  | 0, _, c => c
  | n + 1, s, c => bsN B f n (s + 1) (B * c + dg (f s))
theorem bsN_inj {B : Nat} {f g : Nat → Int32} (hB : 5 ≤ B) : ∀ (n s c d : Nat), (∀ i, s ≤ i → i < s + n → okP (f i) ∧ okP (g i)) → bsN B f n s c = bsN B g n s d → c = d ∧ ∀ i, s ≤ i → i < s + n → f i = g i
  | 0, s, c, d, _, h => ⟨h, fun i a b => by omega⟩
  | n + 1, s, c, d, hk, h => by
    unfold bsN at h
    obtain ⟨h1, h2⟩ := bsN_inj hB n (s + 1) _ _ (fun i a b => hk i (by omega) (by omega)) h
    obtain ⟨k1, k2⟩ := hk s (Nat.le_refl _) (by omega)
    have l1 := dg_lt k1
    have l2 := dg_lt k2
    have e1 : c = d := by
      have a1 : (B * c + dg (f s)) / B = c := by rw [Nat.add_comm, Nat.add_mul_div_left _ _ (by omega), Nat.div_eq_of_lt (by omega), Nat.zero_add]
      have a2 : (B * d + dg (g s)) / B = d := by rw [Nat.add_comm, Nat.add_mul_div_left _ _ (by omega), Nat.div_eq_of_lt (by omega), Nat.zero_add]
      rw [← a1, ← a2, h1]
    subst e1
    refine ⟨rfl, fun i a b => ?_⟩
    rcases Nat.lt_or_ge s i with h3 | h3
    · exact h2 i h3 (by omega)
    · rw [show i = s by omega]
      exact dg_inj k1 k2 (by omega)
theorem bsN_le {B : Nat} {f : Nat → Int32} (hB : 5 ≤ B) : ∀ (n s c M : Nat), (∀ i, s ≤ i → i < s + n → okP (f i)) → c < M → bsN B f n s c < M * B ^ n
  | 0, s, c, M, _, h => by show c < M * 1; omega
  | n + 1, s, c, M, hk, h => by
    unfold bsN
    have l1 := dg_lt (hk s (Nat.le_refl _) (by omega))
    have h1 : B * c + dg (f s) < M * B := by
      have : B * (c + 1) ≤ B * M := Nat.mul_le_mul_left _ h
      rw [Nat.mul_add, Nat.mul_one] at this
      rw [Nat.mul_comm M B]
      omega
    have := bsN_le hB n (s + 1) _ (M * B) (fun i a b => hk i (by omega) (by omega)) h1
    rw [Nat.pow_succ, Nat.mul_comm (B ^ n) B, ← Nat.mul_assoc]
    exact this
theorem sqc_nI {f : Nat → Int32} : ∀ (n s c : Nat), (∀ i, s ≤ i → i < s + n → okP (f i)) → sqc f n s (nI c) = nI (bsN 5 f n s c)
  | 0, s, c, _ => rfl
  | n + 1, s, c, h => by
    unfold sqc bsN
    rw [dg_nI (h s (Nat.le_refl _) (by omega)), show (5 : Int32) = nI 5 from rfl, pk_mul, nI_add]
    exact sqc_nI n (s + 1) _ (fun i a b => h i (by omega) (by omega))
theorem sqc_cg {f g : Nat → Int32} : ∀ (n s : Nat) (c : Int32), (∀ i, s ≤ i → i < s + n → f i = g i) → sqc f n s c = sqc g n s c
  | 0, s, c, _ => rfl
  | n + 1, s, c, h => by
    unfold sqc
    rw [h s (Nat.le_refl _) (by omega)]
    exact sqc_cg n (s + 1) _ (fun i a b => h i (by omega) (by omega))
theorem bs_hi {f : Nat → Int32} (hf : okF f) {n s : Nat} (hn : n ≤ 10) (hs : s + n ≤ 48) : bsN 5 f n s 0 < 2 ^ 31 := by
  have h := bsN_le (B := 5) (f := f) (by decide) n s 0 1 (fun i a b => hf i (by omega)) (by decide)
  have h2 : 5 ^ n ≤ 5 ^ 10 := Nat.pow_le_pow_right (by decide) hn
  have h3 : 5 ^ 10 < 2 ^ 31 := by decide
  omega
theorem enc_inj {p q : P3} (hp : okp3 p) (hq : okp3 q) (h : ∀ k, k < 6 → encP p k = encP q k) : eqP p q := by
  have h5 : ∀ k, k < 5 → ∀ s, 10 * k ≤ s → s < 10 * k + min 10 (48 - 10 * k) → p.1 s = q.1 s := by
    intro k hk
    have h1 := h k (by omega)
    unfold encP at h1
    rw [if_pos hk, if_pos hk, show (0 : Int32) = nI 0 from rfl, sqc_nI _ _ _ (fun i a b => hp.1 i (by omega)), sqc_nI _ _ _ (fun i a b => hq.1 i (by omega))] at h1
    have h2 := (nI_eq (bs_hi hp.1 (by omega) (by omega)) (bs_hi hq.1 (by omega) (by omega))).mp h1
    exact (bsN_inj (by decide) _ _ _ _ (fun i a b => ⟨hp.1 i (by omega), hq.1 i (by omega)⟩) h2).2
  refine ⟨fun s hs => h5 (s / 10) (by omega) s (by omega) (by omega), ?_⟩
  have h6 := h 5 (by decide)
  unfold encP at h6
  rw [if_neg (by decide), if_neg (by decide)] at h6
  obtain ⟨-, pm, pj⟩ := hp
  obtain ⟨-, qm, qj⟩ := hq
  have key : ∀ x : Int32, (x = -6 ∨ ∃ j, j < 48 ∧ x = nI j) → ∃ t : Nat, t < 54 ∧ x = nI t - 6 := by
    intro x hx
    rcases hx with hx | ⟨j, hj, hx⟩
    · exact ⟨0, by decide, by rw [hx]; decide⟩
    · refine ⟨j + 6, by omega, ?_⟩
      rw [hx, show (6 : Int32) = nI 6 from rfl, pk_sub (by omega), Nat.add_sub_cancel]
  have key2 : ∀ m x : Int32, (m = 0 ∨ m = 1) → ∀ t : Nat, x = nI t - 6 → ∃ e : Nat, e < 2 ∧ m = nI e ∧ 100 * m + x + 6 = nI (100 * e + t) := by
    intro m x hm t hx
    have e6 : ∀ a b : Int32, a + (b - 6) + 6 = a + b := fun a b => by
      rw [Int32.add_assoc, Int32.sub_add_cancel]
    rcases hm with hm | hm
    · refine ⟨0, by decide, hm, ?_⟩
      rw [hm, hx, e6]
      exact nI_add 0 t
    · refine ⟨1, by decide, hm, ?_⟩
      rw [hm, hx, e6]
      exact nI_add 100 t
  obtain ⟨t1, ht1, e1⟩ := key _ pj
  obtain ⟨t2, ht2, e2⟩ := key _ qj
  obtain ⟨m1, hm1, a1, b1⟩ := key2 _ _ pm t1 e1
  obtain ⟨m2, hm2, a2, b2⟩ := key2 _ _ qm t2 e2
  have h7 : nI (100 * m1 + t1) = nI (100 * m2 + t2) := by rw [← b1, ← b2, h6]
  have h8 := (nI_eq (by omega) (by omega)).mp h7
  have h9 : m1 = m2 := by omega
  have h10 : t1 = t2 := by omega
  subst h9
  subst h10
  exact ⟨a1.trans a2.symm, e1.trans e2.symm⟩
theorem enc_cg {p q : P3} (h : eqP p q) (k : Nat) : encP p k = encP q k := by
  unfold encP
  split
  · exact sqc_cg _ _ _ (fun i a b => h.1 i (by omega))
  · rw [h.2.1, h.2.2]
/-- three bits more -/
theorem sh3 {b : Int64} {c d : Nat} (hb : b.toBitVec.toNat = c) (hc : c < 2 ^ 60) {x : Int32} (hx : x = nI d) (hd : d < 8) : ((b <<< ((3 : Int32).toInt64 &&& 63)) ||| x.toInt64).toBitVec.toNat = 8 * c + d := by
  have e1 : (b <<< ((3 : Int32).toInt64 &&& 63)).toBitVec = b.toBitVec <<< 3 := by
    rw [Int64.toBitVec_shiftLeft]
    have : (((3 : Int32).toInt64 &&& 63 : Int64).toBitVec.smod 64).toNat = 3 := by decide
    rw [BitVec.shiftLeft_eq', this]
  have e2 : x.toInt64.toBitVec.toNat = d := by
    subst hx
    have : d = 0 ∨ d = 1 ∨ d = 2 ∨ d = 3 ∨ d = 4 ∨ d = 5 ∨ d = 6 ∨ d = 7 := by omega
    rcases this with rfl | rfl | rfl | rfl | rfl | rfl | rfl | rfl <;> decide
  rw [Int64.toBitVec_or, BitVec.toNat_or, e1, e2, BitVec.toNat_shiftLeft, hb, Nat.shiftLeft_eq, Nat.mod_eq_of_lt (by omega), Nat.mul_comm c (2 ^ 3)]
  exact (Nat.two_pow_add_eq_or_of_lt (i := 3) (b := d) hd c).symm
theorem th_N {f : Nat → Int32} : ∀ (n s : Nat) (b : Int64) (c : Nat), (∀ i, s ≤ i → i < s + n → okP (f i)) → b.toBitVec.toNat = c → (c + 1) * 8 ^ n ≤ 2 ^ 60 → (th f n s b).toBitVec.toNat = bsN 8 f n s c
  | 0, s, b, c, _, hb, _ => hb
  | n + 1, s, b, c, hk, hb, hM => by
    unfold th bsN
    have k1 := hk s (Nat.le_refl _) (by omega)
    have l1 := dg_lt k1
    have h8 : 1 ≤ 8 ^ n := Nat.one_le_pow _ _ (by decide)
    have h9 : (c + 1) * 8 ^ (n + 1) = ((c + 1) * 8) * 8 ^ n := by rw [Nat.pow_succ, Nat.mul_assoc, Nat.mul_comm (8 ^ n) 8]
    have h10 : (c + 1) * 8 * 1 ≤ (c + 1) * 8 * 8 ^ n := Nat.mul_le_mul_left _ h8
    refine th_N n (s + 1) _ _ (fun i a b => hk i (by omega) (by omega)) (sh3 hb (by omega) (dg_nI k1) (by omega)) ?_
    refine Nat.le_trans (Nat.mul_le_mul_right _ ?_) (by rw [← h9]; exact hM)
    omega
theorem th_cg {f g : Nat → Int32} : ∀ (n s : Nat) (c : Int64), (∀ i, s ≤ i → i < s + n → f i = g i) → th f n s c = th g n s c
  | 0, s, c, _ => rfl
  | n + 1, s, c, h => by
    unfold th
    rw [h s (Nat.le_refl _) (by omega)]
    exact th_cg n (s + 1) _ (fun i a b => h i (by omega) (by omega))
theorem tht_inj {p q : P3} (hp : okp3 p) (hq : okp3 q) (h : t3p p = t3p q) : eqP p q := by
  have inits : ∀ (r : P3), okp3 r → ∀ k, k < 3 → ∃ c, c < 64 ∧ (if k = 0 then r.2.1.toInt64 else if k = 1 then (r.2.2 - (-6)).toInt64 else 0 : Int64).toBitVec.toNat = c ∧ (k = 0 → r.2.1 = nI c) ∧ (k = 1 → r.2.2 = nI c - 6) := by
    intro r hr k hk
    obtain ⟨-, hm, hj⟩ := hr
    have hk3 : k = 0 ∨ k = 1 ∨ k = 2 := by omega
    rcases hk3 with rfl | rfl | rfl
    · rcases hm with hm | hm
      · exact ⟨0, by decide, by rw [if_pos rfl, hm]; decide, fun _ => hm, fun z => by omega⟩
      · exact ⟨1, by decide, by rw [if_pos rfl, hm]; decide, fun _ => hm, fun z => by omega⟩
    · have e6 : ∀ x : Int32, x - (-6) = x + 6 := fun x => by rw [Int32.sub_eq_add_neg]; rfl
      rcases hj with hj | ⟨j, hj48, hj⟩
      · exact ⟨0, by decide, by rw [if_neg (by decide), if_pos rfl, hj]; decide, fun z => by omega, fun _ => by rw [hj]; decide⟩
      · refine ⟨j + 6, by omega, ?_, fun z => by omega, fun _ => ?_⟩
        · rw [if_neg (by decide), if_pos rfl, e6, hj, show (6 : Int32) = nI 6 from rfl, nI_add, nI_l (by omega)]
          have h1 := of_decide_eq_true (all2 (A := 54) (B := 1) (P := fun a _ => decide ((lN a).toBitVec.toNat = a)) (by decide +kernel) (show j + 6 < 54 by omega) (show 0 < 1 by decide))
          exact h1
        · rw [hj, show (6 : Int32) = nI 6 from rfl, pk_sub (by omega), Nat.add_sub_cancel]
    · exact ⟨0, by decide, by rw [if_neg (by decide), if_neg (by decide)]; decide, fun z => by omega, fun z => by omega⟩
  have part : ∀ k, k < 3 → thO p.1 p.2.1 p.2.2 k = thO q.1 q.2.1 q.2.2 k := by
    intro k hk
    have hk3 : k = 0 ∨ k = 1 ∨ k = 2 := by omega
    have e1 := congrArg (fun z : T3 => z.1) h
    have e2 := congrArg (fun z : T3 => z.2.1) h
    have e3 := congrArg (fun z : T3 => z.2.2) h
    rcases hk3 with rfl | rfl | rfl
    · exact e1
    · exact e2
    · exact e3
  have go : ∀ k, k < 3 → (∀ s, k * 16 ≤ s → s < k * 16 + 16 → p.1 s = q.1 s) ∧ (k = 0 → p.2.1 = q.2.1) ∧ (k = 1 → p.2.2 = q.2.2) := by
    intro k hk
    obtain ⟨c, hc, ec, c0, c1⟩ := inits p hp k hk
    obtain ⟨d, hd, ed, d0, d1⟩ := inits q hq k hk
    have h1 := congrArg (fun z : Int64 => z.toBitVec.toNat) (part k hk)
    have h2 : (thO p.1 p.2.1 p.2.2 k).toBitVec.toNat = bsN 8 p.1 16 (k * 16) c := th_N _ _ _ _ (fun i a b => hp.1 i (by omega)) ec (by have : (c + 1) * 8 ^ 16 ≤ 64 * 8 ^ 16 := Nat.mul_le_mul_right _ (by omega); exact Nat.le_trans this (by decide))
    have h3 : (thO q.1 q.2.1 q.2.2 k).toBitVec.toNat = bsN 8 q.1 16 (k * 16) d := th_N _ _ _ _ (fun i a b => hq.1 i (by omega)) ed (by have : (d + 1) * 8 ^ 16 ≤ 64 * 8 ^ 16 := Nat.mul_le_mul_right _ (by omega); exact Nat.le_trans this (by decide))
    have h4 : bsN 8 p.1 16 (k * 16) c = bsN 8 q.1 16 (k * 16) d := by rw [← h2, ← h3]; exact h1
    obtain ⟨h5, h6⟩ := bsN_inj (by decide) _ _ _ _ (fun i a b => ⟨hp.1 i (by omega), hq.1 i (by omega)⟩) h4
    subst h5
    exact ⟨h6, fun z => (c0 z).trans (d0 z).symm, fun z => (c1 z).trans (d1 z).symm⟩
  refine ⟨fun s hs => ?_, (go 0 (by decide)).2.1 rfl, (go 1 (by decide)).2.2 rfl⟩
  exact (go (s / 16) (by omega)).1 s (by omega) (by omega)
theorem tht_cg {p q : P3} (h : eqP p q) : t3p p = t3p q := by
  unfold t3p t3O thO
  rw [h.2.1, h.2.2, th_cg 16 (0 * 16) _ (fun i a b => h.1 i (by omega)), th_cg 16 (1 * 16) _ (fun i a b => h.1 i (by omega)), th_cg 16 (2 * 16) _ (fun i a b => h.1 i (by omega))]
def encE (p q : P3) : Bool := (List.range 6).all (fun k => decide (encP p k = encP q k))
theorem encE_iff {p q : P3} (hp : okp3 p) (hq : okp3 q) : encE p q = decide (t3p p = t3p q) := by
  by_cases h : t3p p = t3p q
  · rw [decide_eq_true h]
    have h1 := tht_inj hp hq h
    exact List.all_eq_true.mpr (fun k _ => decide_eq_true (enc_cg h1 k))
  · rw [decide_eq_false h]
    refine Bool.eq_false_iff.mpr (fun z => h ?_)
    refine tht_cg (enc_inj hp hq (fun k hk => ?_))
    exact of_decide_eq_true (List.all_eq_true.mp z k (List.mem_range.mpr hk))
theorem tmN_enc {P : List P3} {l : P3} (hP : ∀ p ∈ P, okp3 p) (hl : P[P.length - 1]? = some l) : tmN (P.map t3p) = P.countP (fun p => encE p l) := by
  unfold tmN
  rw [List.countP_map]
  refine List.countP_congr (fun p hp => ?_)
  have hlm : l ∈ P := List.mem_of_getElem? hl
  rw [encE_iff (hP p hp) (hP l hlm), List.length_map, List.getElem?_map, hl]
  simp
theorem hasH_iff {f : Nat → Int32} {mv jp : Int32} (hj : jjO f mv jp) : hasH f mv = true ↔ hopsC f mv jp ≠ [] := by
  constructor
  · intro h
    unfold hasH at h
    obtain ⟨s, hs, h1⟩ := List.any_eq_true.mp h
    rw [Bool.and_eq_true] at h1
    have hsd := of_decide_eq_true h1.1
    obtain ⟨way, hw, h2⟩ := List.any_eq_true.mp h1.2
    rcases hj with hj | hj
    · subst hj
      by_cases h0 : allJ f mv (-6) = []
      · unfold hopsC
        rw [if_pos (by rw [h0]; rfl)]
        have hnp : ¬ 0 < prey f s way := by
          intro hp
          obtain ⟨q, hq⟩ := List.exists_mem_of_ne_nil _ (jAt_ne hp)
          have : q ∈ allJ f mv (-6) := by
            refine List.mem_flatMap.mpr ⟨s, hs, ?_⟩
            unfold jSq
            rw [if_pos ⟨hsd, Or.inl rfl⟩]
            exact List.mem_flatMap.mpr ⟨way, hw, hq⟩
          rw [h0] at this
          simp at this
        unfold hasW at h2
        rw [Bool.or_eq_true, Bool.and_eq_true] at h2
        rcases h2 with ⟨hm, he⟩ | h2
        · have he := of_decide_eq_true he
          have hq : (s, nk s way 1, way, 1, (-6 : Int32)) ∈ mAt f s way := by
            unfold mAt
            rw [if_pos hm]
            unfold lands
            have : ∃ n, (if isKg (f s) = true then 23 else 1) - 0 = n + 1 := by
              split
              · exact ⟨22, rfl⟩
              · exact ⟨0, rfl⟩
            obtain ⟨n, hn⟩ := this
            rw [hn]
            unfold ld
            rw [if_pos (show f (nk s way (0 + 1)) = -6 from he)]
            exact List.mem_cons_self
          refine List.ne_nil_of_mem (a := (s, nk s way 1, way, 1, (-6 : Int32))) ?_
          refine List.mem_flatMap.mpr ⟨s, hs, ?_⟩
          unfold mSq
          rw [if_pos hsd]
          exact List.mem_flatMap.mpr ⟨way, hw, hq⟩
        · exact absurd (of_decide_eq_true h2) hnp
      · unfold hopsC
        rw [if_neg (fun z => h0 (List.eq_nil_of_length_eq_zero z))]
        exact h0
    · unfold hopsC
      rw [if_neg (fun z => hj (List.eq_nil_of_length_eq_zero z))]
      exact hj
  · intro h
    obtain ⟨q, hq⟩ := List.exists_mem_of_ne_nil _ h
    have fin : ∀ s way, s < 48 → way < 4 → sdO (f s) = mv → hasW f s way = true → hasH f mv = true := by
      intro s way hs hw h1 h2
      unfold hasH
      refine any_t hs ?_
      rw [decide_eq_true h1, Bool.true_and]
      exact any_t hw h2
    unfold hopsC at hq
    split at hq
    · obtain ⟨s, hs, hq⟩ := fm_mem hq
      obtain ⟨h1, way, hw, hq⟩ := mSq_mem hq
      refine fin s way hs hw h1 ?_
      unfold mAt at hq
      split at hq
      · next hm =>
        obtain ⟨j, h2, h3, h4, h5⟩ := ld_mem _ _ hq
        have := h5 1 (by omega) (by omega)
        unfold hasW
        rw [hm, show f (nx s way) = -6 from this]
        rfl
      · simp at hq
    · obtain ⟨s, hs, hq⟩ := fm_mem hq
      obtain ⟨h1, -, way, hw, hq⟩ := jSq_mem hq
      refine fin s way hs hw h1 ?_
      unfold jAt at hq
      split at hq
      · next hp =>
        unfold hasW
        rw [decide_eq_true hp, Bool.or_true]
      · simp at hq
/-- how many of a piece there are on the first squares -/
def pcK (f : Nat → Int32) (i k : Nat) : Nat := (List.range k).countP (fun s => decide (f s = nI i))
theorem pcK_s {f : Nat → Int32} {i k : Nat} : pcK f i (k + 1) = pcK f i k + (if f k = nI i then 1 else 0) := by
  unfold pcK
  rw [List.range_succ, List.countP_append, List.countP_singleton]
  simp only [decide_eq_true_eq]
theorem pcK_le {f : Nat → Int32} {i : Nat} : ∀ k, pcK f i k ≤ k
  | 0 => Nat.le_refl _
  | k + 1 => by
    rw [pcK_s]
    have := pcK_le (f := f) (i := i) k
    split <;> omega
theorem pcK_upd {f : Nat → Int32} {i j : Nat} {p : Int32} : ∀ k, pcK (upd f j p) i k + (if j < k ∧ f j = nI i then 1 else 0) = pcK f i k + (if j < k ∧ p = nI i then 1 else 0)
  | 0 => by simp [pcK]
  | k + 1 => by
    have ih := pcK_upd (f := f) (i := i) (j := j) (p := p) k
    rw [pcK_s, pcK_s]
    by_cases e : k = j
    · subst e
      rw [pk_us]
      have a1 : ¬ (k < k ∧ f k = nI i) := fun z => absurd z.1 (Nat.lt_irrefl k)
      have a2 : ¬ (k < k ∧ p = nI i) := fun z => absurd z.1 (Nat.lt_irrefl k)
      rw [if_neg a1, if_neg a2] at ih
      have b1 : (if k < k + 1 ∧ f k = nI i then 1 else 0) = (if f k = nI i then 1 else 0 : Nat) := by
        by_cases h : f k = nI i
        · rw [if_pos h, if_pos ⟨Nat.lt_succ_self k, h⟩]
        · rw [if_neg h, if_neg (fun z => h z.2)]
      have b2 : (if k < k + 1 ∧ p = nI i then 1 else 0) = (if p = nI i then 1 else 0 : Nat) := by
        by_cases h : p = nI i
        · rw [if_pos h, if_pos ⟨Nat.lt_succ_self k, h⟩]
        · rw [if_neg h, if_neg (fun z => h z.2)]
      rw [b1, b2]
      omega
    · rw [pk_un e]
      have b1 : (j < k + 1 ∧ f j = nI i) ↔ (j < k ∧ f j = nI i) := ⟨fun z => ⟨by omega, z.2⟩, fun z => ⟨by omega, z.2⟩⟩
      have b2 : (j < k + 1 ∧ p = nI i) ↔ (j < k ∧ p = nI i) := ⟨fun z => ⟨by omega, z.2⟩, fun z => ⟨by omega, z.2⟩⟩
      simp only [b1, b2]
      omega
/-- the numbers are those of the board -/
def nC (f n : Nat → Int32) : Prop := ∀ i, i < 4 → n i = nI (pcK f i 48)
theorem adN_at {n : Nat → Int32} {p m : Int32} (hp : okP p) {i : Nat} (hi : i < 4) : adN n p m i = n i + (if p = nI i then m else 0) := by
  have hx : ∀ j, j < 4 → adN n (nI j) m i = n i + (if nI j = nI i then m else 0) := by
    intro j hj
    rw [adN_nI hj]
    by_cases e : i = j
    · rw [e, pk_us, if_pos rfl]
    · rw [pk_un e, if_neg (fun z => e ((nI_eq (by omega) (by omega)).mp z).symm), Int32.add_zero]
  rcases hp with rfl | rfl | rfl | rfl | rfl
  · rw [adN_out (Or.inl (by decide)), if_neg (fun z => nI_n6 (j := i) (by omega) z.symm), Int32.add_zero]
  · exact hx 0 (by decide)
  · exact hx 1 (by decide)
  · exact hx 2 (by decide)
  · exact hx 3 (by decide)
theorem nC_upd {f n : Nat → Int32} {j : Nat} {p : Int32} (hj : j < 48) (hf : okF f) (hp : okP p) (h : nC f n) : nC (upd f j p) (adN (adN n (f j) (-1)) p 1) := by
  intro i hi
  rw [adN_at hp hi, adN_at (hf j hj) hi, h i hi]
  have e := pcK_upd (f := f) (i := i) (j := j) (p := p) 48
  by_cases a : f j = nI i
  · by_cases b : p = nI i
    · rw [if_pos ⟨hj, a⟩, if_pos ⟨hj, b⟩] at e
      rw [if_pos a, if_pos b, show pcK (upd f j p) i 48 = pcK f i 48 by omega, Int32.add_assoc, show (-1 + 1 : Int32) = 0 from rfl, Int32.add_zero]
    · rw [if_pos ⟨hj, a⟩, if_neg (fun z => b z.2)] at e
      rw [if_pos a, if_neg b, Int32.add_zero, show pcK f i 48 = pcK (upd f j p) i 48 + 1 by omega, pk_m1]
  · by_cases b : p = nI i
    · rw [if_neg (fun z => a z.2), if_pos ⟨hj, b⟩] at e
      rw [if_neg a, if_pos b, Int32.add_zero, show pcK (upd f j p) i 48 = pcK f i 48 + 1 by omega, nI_1]
    · rw [if_neg (fun z => a z.2), if_neg (fun z => b z.2)] at e
      rw [if_neg a, if_neg b, Int32.add_zero, Int32.add_zero, show pcK (upd f j p) i 48 = pcK f i 48 by omega]
theorem nC_pl {f n : Nat → Int32} {j : Nat} {p : Int32} (hj : j < 48) (hf : okF f) (hp : okP p) (h : nC f n) : nC (plF f (nI j) p) (plN f n (nI j) p) := by
  rw [plF_nI hj, plN_nI hj]
  exact nC_upd hj hf hp h
theorem okF_pl {f : Nat → Int32} {s p : Int32} (hf : okF f) (hp : okP p) : okF (plF f s p) := by
  intro t ht
  unfold plF
  split
  · by_cases e : t = s.toNatClampNeg
    · rw [e, pk_us]; exact hp
    · rw [pk_un e]; exact hf t ht
  · exact hf t ht
theorem nC_mk {f n : Nat → Int32} {mv : Int32} {q : HP} (hg : goQ f mv q) (hf : okF f) (h : nC f n) : nC (mkF f mv q) (mkN f n mv q) := by
  unfold mkF mkN
  have h1 := nC_pl (p := -6) hg.1 hf (Or.inl rfl) h
  have f1 : okF (plF f (nI q.1) (-6)) := okF_pl hf (Or.inl rfl)
  have h2 : nC (plF (plF f (nI q.1) (-6)) q.2.2.2.2 (-6)) (plN (plF f (nI q.1) (-6)) (plN f n (nI q.1) (-6)) q.2.2.2.2 (-6)) := by
    rcases hg.2.2.2.2 with e | ⟨t, ht, e, -⟩
    · rw [e, plF_out (Or.inl (by decide)), plN_out (Or.inl (by decide))]
      exact h1
    · rw [e]
      exact nC_pl ht f1 (Or.inl rfl) h1
  exact nC_pl hg.2.1 (okF_pl f1 (Or.inl rfl)) (mkP_ok hg.2.2.2.1 (hf _ hg.1)).1 h2
