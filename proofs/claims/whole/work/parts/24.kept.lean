/-! ===== the kept states ===== -/
abbrev GS : Type := (Nat → Int32) × (Nat → Int32) × Int32 × Int32 × (Nat → Int32) × (Nat → Int32) × List T3 × Int32 × Int32 × Int32 × Int32
def isGS (w : PW) (g : Nat) (G : GS) : Prop := isGm w g G.1 G.2.1 G.2.2.1 G.2.2.2.1 G.2.2.2.2.1 G.2.2.2.2.2.1 G.2.2.2.2.2.2.1 G.2.2.2.2.2.2.2.1 G.2.2.2.2.2.2.2.2.1 G.2.2.2.2.2.2.2.2.2.1 G.2.2.2.2.2.2.2.2.2.2
def cmb {α : Type} (a b : Nat → Option α) : Nat → Option α := fun i => if i < 6 then a i else b (i - 6)
def hsL (H : List GS) (S : Nat → Option GS) : Nat → Option GS := cmb (fun i => H[i]?) S
/-- the states that are kept: each at a place of its own, seven cells each, from B on -/
def isPl (w : PW) (B : Nat) (sa : Nat → Option Nat) (L : Nat → Option GS) : Prop :=
  (∀ i h, sa i = some h → (∃ a, h = B + 7 * a) ∧ ∃ G, isGS w h G ∧ ∀ G0, L i = some G0 → G = G0) ∧ (∀ i G0, L i = some G0 → ∃ h, sa i = some h) ∧ ∀ i j h, sa i = some h → sa j = some h → i = j
theorem isGS.lt {w : PW} {g : Nat} {G : GS} (h : isGS w g G) : g + 6 < w.length := by
  obtain ⟨h0, h1, h2, h3, h4, pf, h5, h6⟩ := h
  exact (List.getElem?_eq_some_iff.mp h6).1
theorem isPl.get {w : PW} {B : Nat} {sa : Nat → Option Nat} {L : Nat → Option GS} (k : isPl w B sa L) {i : Nat} {G : GS} (h : L i = some G) : ∃ g, sa i = some g ∧ isGS w g G ∧ ∃ a, g = B + 7 * a := by
  obtain ⟨g, hg⟩ := k.2.1 i G h
  obtain ⟨a, G1, h1, h2⟩ := k.1 i g hg
  have := h2 G h
  subst this
  exact ⟨g, hg, h1, a⟩
theorem isPl.fr {w w1 : PW} {B : Nat} {sa : Nat → Option Nat} {L : Nat → Option GS} (k : isPl w B sa L) (h : ∀ q, B ≤ q → q < w.length → w1[q]? = w[q]?) (hl : w.length ≤ w1.length) : isPl w1 B sa L := by
  refine ⟨fun i g hg => ?_, k.2.1, k.2.2⟩
  obtain ⟨⟨a, ha⟩, G, h1, h2⟩ := k.1 i g hg
  refine ⟨⟨a, ha⟩, G, ?_, h2⟩
  have hlt := h1.lt
  have hat : ∀ q, g ≤ q → q < g + 7 → w1[q]? = w[q]? := fun q a b => h q (by omega) (by omega)
  obtain ⟨h0, hb, h2, h3, h4, pf, h5, h6⟩ := h1
  exact ⟨(hat _ (by omega) (by omega)).trans h0, ⟨(hat _ (by omega) (by omega)).trans hb.1, (hat _ (by omega) (by omega)).trans hb.2.1, (hat _ (by omega) (by omega)).trans hb.2.2⟩, (hat _ (by omega) (by omega)).trans h2, (hat _ (by omega) (by omega)).trans h3, h4, pf, h5, (hat _ (by omega) (by omega)).trans h6⟩
/-- the places in another order -/
theorem isPl.ord {w : PW} {B : Nat} {sa sa1 : Nat → Option Nat} {L L1 : Nat → Option GS} (k : isPl w B sa L) (π : Nat → Nat) (hπ : ∀ i j, π i = π j → i = j) (h1 : ∀ i, sa1 i = sa (π i)) (h2 : ∀ i G, L1 i = some G → L (π i) = some G) : isPl w B sa1 L1 := by
  refine ⟨fun i h e => ?_, fun i G e => ?_, fun i j h e1 e2 => hπ i j (k.2.2 _ _ h (by rw [← h1]; exact e1) (by rw [← h1]; exact e2))⟩
  · rw [h1] at e
    obtain ⟨a, G, g1, g2⟩ := k.1 _ h e
    exact ⟨a, G, g1, fun G0 e0 => g2 G0 (h2 i G0 e0)⟩
  · obtain ⟨h, e1⟩ := k.2.1 _ G (h2 i G e)
    exact ⟨h, by rw [h1]; exact e1⟩
/-- one place is written -/
theorem isPl.put {w w1 : PW} {B i0 g : Nat} {sa : Nat → Option Nat} {L L1 : Nat → Option GS} {G : GS} (k : isPl w B sa L) (hi : sa i0 = some g) (hF : ∀ q, B ≤ q → q < w.length → ¬ gS g q → w1[q]? = w[q]?) (hG : isGS w1 g G) (hL : ∀ i G0, L1 i = some G0 → (i = i0 ∧ G0 = G) ∨ (i ≠ i0 ∧ L i = some G0)) : isPl w1 B sa L1 := by
  refine ⟨fun i h e => ?_, fun i G0 e => ?_, k.2.2⟩
  · by_cases hii : i = i0
    · subst hii
      rw [hi] at e
      cases e
      refine ⟨(k.1 i g hi).1, G, hG, fun G0 e0 => ?_⟩
      rcases hL i G0 e0 with h | h
      · exact h.2.symm
      · exact absurd rfl h.1
    · obtain ⟨⟨a, ha⟩, G1, g1, g2⟩ := k.1 i h e
      obtain ⟨⟨b, hb⟩, -⟩ := k.1 i0 g hi
      have hne : h ≠ g := fun z => hii (k.2.2 i i0 g (by rw [← z]; exact e) hi)
      have hlt := g1.lt
      have hat : ∀ q, h ≤ q → q < h + 7 → w1[q]? = w[q]? := fun q x y => hF q (by omega) (by omega) (by unfold gS; omega)
      refine ⟨⟨a, ha⟩, G1, ?_, fun G0 e0 => ?_⟩
      · obtain ⟨h0, hb, h2, h3, h4, pf, h5, h6⟩ := g1
        exact ⟨(hat _ (by omega) (by omega)).trans h0, ⟨(hat _ (by omega) (by omega)).trans hb.1, (hat _ (by omega) (by omega)).trans hb.2.1, (hat _ (by omega) (by omega)).trans hb.2.2⟩, (hat _ (by omega) (by omega)).trans h2, (hat _ (by omega) (by omega)).trans h3, h4, pf, h5, (hat _ (by omega) (by omega)).trans h6⟩
      · rcases hL i G0 e0 with h9 | h9
        · exact absurd h9.1 hii
        · exact g2 G0 h9.2
  · rcases hL i G0 e with h | h
    · exact ⟨g, by rw [h.1]; exact hi⟩
    · exact k.2.1 i G0 h.2
/-- a new place -/
theorem isPl.add {w : PW} {B i0 g : Nat} {sa sa1 : Nat → Option Nat} {L : Nat → Option GS} {G : GS} (k : isPl w B sa L) (hi : sa i0 = none) (h1 : sa1 i0 = some g) (h2 : ∀ i, i ≠ i0 → sa1 i = sa i) (ha : ∃ a, g = B + 7 * a) (hG : isGS w g G) (hn : ∀ i, sa i ≠ some g) : isPl w B sa1 L := by
  have hL : L i0 = none := by
    cases e : L i0 with
    | none => rfl
    | some G0 => obtain ⟨h, hh⟩ := k.2.1 i0 G0 e; rw [hi] at hh; cases hh
  refine ⟨fun i h e => ?_, fun i G0 e => ?_, fun i j h e1 e2 => ?_⟩
  · by_cases hii : i = i0
    · subst hii
      rw [h1] at e
      cases e
      exact ⟨ha, G, hG, fun G0 e0 => by rw [hL] at e0; cases e0⟩
    · rw [h2 i hii] at e
      exact k.1 i h e
  · by_cases hii : i = i0
    · subst hii
      exact ⟨g, h1⟩
    · obtain ⟨h, hh⟩ := k.2.1 i G0 e
      exact ⟨h, by rw [h2 i hii]; exact hh⟩
  · by_cases hii : i = i0
    · by_cases hjj : j = i0
      · rw [hii, hjj]
      · subst hii
        rw [h1] at e1
        cases e1
        rw [h2 j hjj] at e2
        exact absurd e2 (hn j)
    · by_cases hjj : j = i0
      · subst hjj
        rw [h1] at e2
        cases e2
        rw [h2 i hii] at e1
        exact absurd e1 (hn i)
      · rw [h2 i hii] at e1
        rw [h2 j hjj] at e2
        exact k.2.2 i j h e1 e2
theorem upo_s {f : Nat → Option Nat} {k : Nat} {x : Option Nat} : va_up f k x k = x := by simp [va_up]
theorem upo_n {f : Nat → Option Nat} {k j : Nat} {x : Option Nat} (h : j ≠ k) : va_up f k x j = f j := by simp [va_up, h]
theorem r_rf {Γ : CT} {X : MX} {R : Room} {sc : Option (Nat × (Nat → Int32))} {FZ : FX} {kc ks : Nat} {w : PW} {pc : Nat} {ls : List (Option Value)} {st : List Value} {a : Option Nat} {h : Nat} (e : a = some h) (k : Rn Γ X R sc FZ kc ks w pc ls (.ref h :: st)) : Rn Γ X R sc FZ kc ks w pc ls (rf a :: st) := by
  subst e
  exact k
theorem r_rfN {Γ : CT} {X : MX} {R : Room} {sc : Option (Nat × (Nat → Int32))} {FZ : FX} {kc ks : Nat} {w : PW} {pc : Nat} {ls : List (Option Value)} {st : List Value} {a : Option Nat} (e : a = none) (k : Rn Γ X R sc FZ kc ks w pc ls (.null :: st)) : Rn Γ X R sc FZ kc ks w pc ls (rf a :: st) := by
  subst e
  exact k
set_option maxRecDepth 100000 in
theorem tX2_dropOldest {Γ : CT} {w : PW} {h : Nat} {sz : Int32} {st : Nat → Option Nat} (hw : w[h]? = some (oB 2 [.ref (h + 1), .int sz])) (hs : w[h + 1]? = some (aG 6 st)) (hall : ∀ i, i < 6 → ∃ g, st i = some g ∧ ∃ vs, w[g]? = some (oB 1 vs) ∧ (g ≠ h ∧ g ≠ h + 1)) : Cl Γ yX2_dropOldest XX2_dropOldest 0 0 0 [.ref h] w (rN (fun w1 => ∃ st1 : Nat → Option Nat, Fr w w1 (fun q => q = h ∨ q = h + 1) ∧ w1[h]? = some (oB 2 [.ref (h + 1), .int 5]) ∧ w1[h + 1]? = some (aG 6 st1) ∧ (∀ k, k < 5 → st1 k = st (k + 1)) ∧ st1 5 = st 0)) := by
  obtain ⟨h0, hs0, v0, hg0, hn0⟩ := hall 0 (by decide)
  have loop : ∀ (m i : Nat) (u : PW) (f : Nat → Option Nat), 1 ≤ i → i + m = 6 → Fr w u (fun q => q = h ∨ q = h + 1) → u[h]? = some (oB 2 [.ref (h + 1), .int sz]) → u[h + 1]? = some (aG 6 f) → (∀ k, k + 1 < i → f k = st (k + 1)) → (∀ k, i ≤ k + 1 → f k = st k) → Rn Γ XX2_dropOldest (rmO 0 0 0) none (FinM (rN (fun w1 => ∃ st1 : Nat → Option Nat, Fr w w1 (fun q => q = h ∨ q = h + 1) ∧ w1[h]? = some (oB 2 [.ref (h + 1), .int 5]) ∧ w1[h + 1]? = some (aG 6 st1) ∧ (∀ k, k < 5 → st1 k = st (k + 1)) ∧ st1 5 = st 0)) 0 0) 0 0 u 9 [some (.ref h), some (.ref h0), some (.int (nI i))] [] := by
    intro m
    induction m with
    | zero =>
      intro i u f hi1 hi hF hu hv k1 k2
      have h6 : i = 6 := by omega
      subst h6
      have hv0 := hF.at (h := h0) (by omega) hg0
      refine r_iload_n 10 dX2_dropOldest_9 rfl rfl ?_
      refine r_bipush (v := nI 6) 12 dX2_dropOldest_10 rfl (by decide) ?_
      refine r_icmp_ge 35 15 dX2_dropOldest_12 (by decide) rfl (fun q12 => ?_) (fun q12 => absurd q12 (fun z => z (nI_le (by omega) (by omega))))
      refine r_aload_n 36 dX2_dropOldest_35 rfl rfl rfl ?_
      refine r_getf 39 dX2_dropOldest_36 rfl f_X2_11.r (by repeat (first | assumption | exact isBd.o (by assumption) | exact isHp.o (by assumption) | exact isGm.o (by assumption) | exact ga_n (by first | assumption | (simp only [List.length_set, List.length_append, List.length_cons, List.length_nil]; omega)) | exact is_an (by first | assumption | (simp only [List.length_set, List.length_append, List.length_cons, List.length_nil]; omega)) | refine ga_o ?_ | refine is_ao ?_ | refine gs_eq ?_ | refine gs_ne (by omega) ?_ | exact is_of (by assumption) | refine gs_is ?_)) rfl ?_
      refine r_iconst (v := nI 5) 40 dX2_dropOldest_39 rfl (by decide) ?_
      refine r_aload_n 41 dX2_dropOldest_40 rfl rfl rfl ?_
      refine r_gast 42 dX2_dropOldest_41 rfl (5) (by repeat (first | assumption | exact isBd.o (by assumption) | exact isHp.o (by assumption) | exact isGm.o (by assumption) | exact ga_n (by first | assumption | (simp only [List.length_set, List.length_append, List.length_cons, List.length_nil]; omega)) | exact is_an (by first | assumption | (simp only [List.length_set, List.length_append, List.length_cons, List.length_nil]; omega)) | refine ga_o ?_ | refine is_ao ?_ | refine gs_eq ?_ | refine gs_ne (by omega) ?_ | exact is_of (by assumption) | refine gs_is ?_)) rfl (by decide) (by decide) (by repeat (first | assumption | exact isBd.o (by assumption) | exact isHp.o (by assumption) | exact isGm.o (by assumption) | exact ga_n (by first | assumption | (simp only [List.length_set, List.length_append, List.length_cons, List.length_nil]; omega)) | exact is_an (by first | assumption | (simp only [List.length_set, List.length_append, List.length_cons, List.length_nil]; omega)) | refine ga_o ?_ | refine is_ao ?_ | refine gs_eq ?_ | refine gs_ne (by omega) ?_ | exact is_of (by assumption) | refine gs_is ?_)) ?_
      refine r_aload_n 43 dX2_dropOldest_42 rfl rfl rfl ?_
      refine r_iconst (v := 5) 44 dX2_dropOldest_43 rfl (by decide) ?_
      refine r_putf (fs1 := [_, _]) 47 dX2_dropOldest_44 rfl f_X2_17 (by repeat (first | assumption | exact isBd.o (by assumption) | exact isHp.o (by assumption) | exact isGm.o (by assumption) | exact ga_n (by first | assumption | (simp only [List.length_set, List.length_append, List.length_cons, List.length_nil]; omega)) | exact is_an (by first | assumption | (simp only [List.length_set, List.length_append, List.length_cons, List.length_nil]; omega)) | refine ga_o ?_ | refine is_ao ?_ | refine gs_eq ?_ | refine gs_ne (by omega) ?_ | exact is_of (by assumption) | refine gs_is ?_)) rfl (by simp only [List.length_cons, List.length_nil]; omega) rfl ?_
      refine r_vret dX2_dropOldest_47 rfl (by decide) (by decide) ?_
      refine ⟨rfl, _, ((hF.sr (Or.inr rfl)).sr (Or.inl rfl)), (by repeat (first | assumption | exact isBd.o (by assumption) | exact isHp.o (by assumption) | exact isGm.o (by assumption) | exact ga_n (by first | assumption | (simp only [List.length_set, List.length_append, List.length_cons, List.length_nil]; omega)) | exact is_an (by first | assumption | (simp only [List.length_set, List.length_append, List.length_cons, List.length_nil]; omega)) | refine ga_o ?_ | refine is_ao ?_ | refine gs_eq ?_ | refine gs_ne (by omega) ?_ | exact is_of (by assumption) | refine gs_is ?_)), (by repeat (first | assumption | exact isBd.o (by assumption) | exact isHp.o (by assumption) | exact isGm.o (by assumption) | exact ga_n (by first | assumption | (simp only [List.length_set, List.length_append, List.length_cons, List.length_nil]; omega)) | exact is_an (by first | assumption | (simp only [List.length_set, List.length_append, List.length_cons, List.length_nil]; omega)) | refine ga_o ?_ | refine is_ao ?_ | refine gs_eq ?_ | refine gs_ne (by omega) ?_ | exact is_of (by assumption) | refine gs_is ?_)), fun k hk => ?_, upo_s.trans hs0.symm⟩
      rw [upo_n (by omega)]
      exact k1 k (by omega)
    | succ m ih =>
      intro i u f hi1 hi hF hu hv k1 k2
      obtain ⟨hx, hs, vx, hgx, hnx⟩ := hall i (by omega)
      have hvx := hF.at (h := hx) (by omega) hgx
      refine r_iload_n 10 dX2_dropOldest_9 rfl rfl ?_
      refine r_bipush (v := nI 6) 12 dX2_dropOldest_10 rfl (by decide) ?_
      refine r_icmp_ge 35 15 dX2_dropOldest_12 (by decide) rfl (fun q12 => absurd q12 (nI_ge (by omega) (by omega))) (fun q12 => ?_)
      refine r_aload_n 16 dX2_dropOldest_15 rfl rfl rfl ?_
      refine r_getf 19 dX2_dropOldest_16 rfl f_X2_11.r (by repeat (first | assumption | exact isBd.o (by assumption) | exact isHp.o (by assumption) | exact isGm.o (by assumption) | exact ga_n (by first | assumption | (simp only [List.length_set, List.length_append, List.length_cons, List.length_nil]; omega)) | exact is_an (by first | assumption | (simp only [List.length_set, List.length_append, List.length_cons, List.length_nil]; omega)) | refine ga_o ?_ | refine is_ao ?_ | refine gs_eq ?_ | refine gs_ne (by omega) ?_ | exact is_of (by assumption) | refine gs_is ?_)) rfl ?_
      refine r_iload_n 20 dX2_dropOldest_19 rfl rfl ?_
      refine r_iconst (v := nI 1) 21 dX2_dropOldest_20 rfl (by decide) ?_
      refine r_isub 22 dX2_dropOldest_21 rfl ?_
      rw [pk_sub hi1]
      refine r_aload_n 23 dX2_dropOldest_22 rfl rfl rfl ?_
      refine r_getf 26 dX2_dropOldest_23 rfl f_X2_11.r (by repeat (first | assumption | exact isBd.o (by assumption) | exact isHp.o (by assumption) | exact isGm.o (by assumption) | exact ga_n (by first | assumption | (simp only [List.length_set, List.length_append, List.length_cons, List.length_nil]; omega)) | exact is_an (by first | assumption | (simp only [List.length_set, List.length_append, List.length_cons, List.length_nil]; omega)) | refine ga_o ?_ | refine is_ao ?_ | refine gs_eq ?_ | refine gs_ne (by omega) ?_ | exact is_of (by assumption) | refine gs_is ?_)) rfl ?_
      refine r_iload_n 27 dX2_dropOldest_26 rfl rfl ?_
      refine r_gald 28 dX2_dropOldest_27 rfl (i) (by repeat (first | assumption | exact isBd.o (by assumption) | exact isHp.o (by assumption) | exact isGm.o (by assumption) | exact ga_n (by first | assumption | (simp only [List.length_set, List.length_append, List.length_cons, List.length_nil]; omega)) | exact is_an (by first | assumption | (simp only [List.length_set, List.length_append, List.length_cons, List.length_nil]; omega)) | refine ga_o ?_ | refine is_ao ?_ | refine gs_eq ?_ | refine gs_ne (by omega) ?_ | exact is_of (by assumption) | refine gs_is ?_)) rfl (by omega) (by decide) ?_
      refine r_rf (by rw [k2 i (by omega)]; exact hs) ?_
      refine r_gast 29 dX2_dropOldest_28 rfl (i - 1) (by repeat (first | assumption | exact isBd.o (by assumption) | exact isHp.o (by assumption) | exact isGm.o (by assumption) | exact ga_n (by first | assumption | (simp only [List.length_set, List.length_append, List.length_cons, List.length_nil]; omega)) | exact is_an (by first | assumption | (simp only [List.length_set, List.length_append, List.length_cons, List.length_nil]; omega)) | refine ga_o ?_ | refine is_ao ?_ | refine gs_eq ?_ | refine gs_ne (by omega) ?_ | exact is_of (by assumption) | refine gs_is ?_)) rfl (by omega) (by decide) (by repeat (first | assumption | exact isBd.o (by assumption) | exact isHp.o (by assumption) | exact isGm.o (by assumption) | exact ga_n (by first | assumption | (simp only [List.length_set, List.length_append, List.length_cons, List.length_nil]; omega)) | exact is_an (by first | assumption | (simp only [List.length_set, List.length_append, List.length_cons, List.length_nil]; omega)) | refine ga_o ?_ | refine is_ao ?_ | refine gs_eq ?_ | refine gs_ne (by omega) ?_ | exact is_of (by assumption) | refine gs_is ?_)) ?_
      refine r_iinc (ls1 := [_, _, _]) 32 dX2_dropOldest_29 rfl (by decide) rfl rfl (nI_1 i) rfl ?_
      refine r_goto 9 dX2_dropOldest_32 (by decide) ?_
      refine ih (i + 1) _ _ (by omega) (by omega) (hF.sr (Or.inr rfl)) (gs_ne (by omega) hu) (gs_eq (is_of hv)) (fun k hk => ?_) (fun k hk => ?_)
      · rcases Nat.lt_or_ge (k + 1) i with h9 | h9
        · rw [upo_n (by omega)]
          exact k1 k h9
        · rw [show k = i - 1 by omega, upo_s, show i - 1 + 1 = i by omega]
          exact hs.symm
      · rw [upo_n (by omega)]
        exact k2 k (by omega)
  refine Cl.of (ls := [some (.ref h), none, none]) rfl (by decide +kernel) (fun h => by cases h) (Nat.le_of_ble_eq_true rfl) rfl ?_
  refine r_aload_n 1 dX2_dropOldest_0 rfl rfl rfl ?_
  refine r_getf 4 dX2_dropOldest_1 rfl f_X2_11.r (by repeat (first | assumption | exact isBd.o (by assumption) | exact isHp.o (by assumption) | exact isGm.o (by assumption) | exact ga_n (by first | assumption | (simp only [List.length_set, List.length_append, List.length_cons, List.length_nil]; omega)) | exact is_an (by first | assumption | (simp only [List.length_set, List.length_append, List.length_cons, List.length_nil]; omega)) | refine ga_o ?_ | refine is_ao ?_ | refine gs_eq ?_ | refine gs_ne (by omega) ?_ | exact is_of (by assumption) | refine gs_is ?_)) rfl ?_
  refine r_iconst (v := nI 0) 5 dX2_dropOldest_4 rfl (by decide) ?_
  refine r_gald 6 dX2_dropOldest_5 rfl (0) (by repeat (first | assumption | exact isBd.o (by assumption) | exact isHp.o (by assumption) | exact isGm.o (by assumption) | exact ga_n (by first | assumption | (simp only [List.length_set, List.length_append, List.length_cons, List.length_nil]; omega)) | exact is_an (by first | assumption | (simp only [List.length_set, List.length_append, List.length_cons, List.length_nil]; omega)) | refine ga_o ?_ | refine is_ao ?_ | refine gs_eq ?_ | refine gs_ne (by omega) ?_ | exact is_of (by assumption) | refine gs_is ?_)) rfl (by decide) (by decide) ?_
  refine r_rf hs0 ?_
  refine r_astore_n (ls1 := [_, _, _]) 7 dX2_dropOldest_6 rfl (by decide) rfl rfl rfl ?_
  refine r_iconst (v := nI 1) 8 dX2_dropOldest_7 rfl (by decide) ?_
  refine r_istore_n (ls1 := [_, _, _]) 9 dX2_dropOldest_8 rfl (by decide) rfl rfl ?_
  exact loop 5 1 w st (by decide) rfl Fr.rf hw hs (fun k hk => absurd hk (by omega)) (fun _ _ => rfl)

