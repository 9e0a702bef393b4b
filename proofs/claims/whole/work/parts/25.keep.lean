/-! ===== a state is kept, and taken back ===== -/
def keepL (H : List GS) (G : GS) : List GS := (if H.length = 6 then H.drop 1 else H) ++ [G]
theorem keepL_le {H : List GS} {G : GS} (h : H.length ≤ 6) : (keepL H G).length ≤ 6 := by
  unfold keepL
  split
  · next e => rw [List.length_append, List.length_drop, e]; show 6 - 1 + 1 ≤ 6; decide
  · next e => rw [List.length_append]; show H.length + 1 ≤ 6; omega
theorem cmb_lo {α : Type} {a b : Nat → Option α} {i : Nat} (h : i < 6) : cmb a b i = a i := by simp [cmb, h]
theorem cmb_hi {α : Type} {a b : Nat → Option α} {i : Nat} (h : 6 ≤ i) : cmb a b i = b (i - 6) := by simp [cmb, show ¬ i < 6 by omega]
def rotO (i : Nat) : Nat := if i < 5 then i + 1 else if i = 5 then 0 else i
theorem rot_inj (i j : Nat) (h : rotO i = rotO j) : i = j := by
  unfold rotO at h
  by_cases a : i < 5
  · rw [if_pos a] at h
    by_cases b : j < 5
    · rw [if_pos b] at h; omega
    · rw [if_neg b] at h
      by_cases d : j = 5
      · rw [if_pos d] at h; omega
      · rw [if_neg d] at h; omega
  · rw [if_neg a] at h
    by_cases c : i = 5
    · rw [if_pos c] at h
      by_cases b : j < 5
      · rw [if_pos b] at h; omega
      · rw [if_neg b] at h
        by_cases d : j = 5
        · omega
        · rw [if_neg d] at h; omega
    · rw [if_neg c] at h
      by_cases b : j < 5
      · rw [if_pos b] at h; omega
      · rw [if_neg b] at h
        by_cases d : j = 5
        · rw [if_pos d] at h; omega
        · rw [if_neg d] at h; omega
theorem keep_put {w w1 : PW} {B g : Nat} {st sl : Nat → Option Nat} {H : List GS} {S : Nat → Option GS} {G : GS} (hH : H.length < 6) (k : isPl w B (cmb st sl) (hsL H S)) (hi : st H.length = some g) (hF : ∀ q, B ≤ q → q < w.length → ¬ gS g q → w1[q]? = w[q]?) (hG : isGS w1 g G) : isPl w1 B (cmb st sl) (hsL (H ++ [G]) S) := by
  refine k.put (i0 := H.length) (by rw [cmb_lo hH]; exact hi) hF hG (fun i G0 e => ?_)
  unfold hsL at e ⊢
  by_cases h6 : i < 6
  · rw [cmb_lo h6] at e ⊢
    rw [List.getElem?_append] at e
    split at e
    · next h => exact Or.inr ⟨by omega, e⟩
    · next h =>
      have h1 : i - H.length < 1 := (List.getElem?_eq_some_iff.mp e).1
      have h2 : i = H.length := by omega
      subst h2
      rw [Nat.sub_self] at e
      cases e
      exact Or.inl ⟨rfl, rfl⟩
  · rw [cmb_hi (by omega)] at e ⊢
    exact Or.inr ⟨by omega, e⟩
theorem keep_drop {w : PW} {B : Nat} {st st1 sl : Nat → Option Nat} {H : List GS} {S : Nat → Option GS} (hH : H.length = 6) (k : isPl w B (cmb st sl) (hsL H S)) (h1 : ∀ k, k < 5 → st1 k = st (k + 1)) (h2 : st1 5 = st 0) : isPl w B (cmb st1 sl) (hsL (H.drop 1) S) := by
  refine k.ord rotO rot_inj (fun i => ?_) (fun i G e => ?_)
  · by_cases h5 : i < 5
    · rw [cmb_lo (by omega), h1 i h5, show rotO i = i + 1 by simp [rotO, h5], cmb_lo (by omega)]
    · by_cases h6 : i = 5
      · subst h6
        rw [cmb_lo (by decide), h2]
        rfl
      · rw [show rotO i = i by simp [rotO, h5, h6], cmb_hi (by omega), cmb_hi (by omega)]
  · unfold hsL at e ⊢
    by_cases h5 : i < 5
    · rw [cmb_lo (by omega)] at e
      rw [show rotO i = i + 1 by simp [rotO, h5], cmb_lo (by omega)]
      rw [List.getElem?_drop] at e
      rw [Nat.add_comm i 1]
      exact e
    · by_cases h6 : i = 5
      · subst h6
        rw [cmb_lo (by decide), List.getElem?_drop] at e
        have := (List.getElem?_eq_some_iff.mp e).1
        omega
      · rw [cmb_hi (by omega)] at e
        rw [show rotO i = i by simp [rotO, h5, h6], cmb_hi (by omega)]
        exact e
set_option maxRecDepth 100000 in
theorem tX2_keep {Γ : CT} {w : PW} {h g B : Nat} {st sl : Nat → Option Nat} {H : List GS} {S : Nat → Option GS} {G : GS} (hw : w[h]? = some (oB 2 [.ref (h + 1), .int (nI H.length)])) (hs : w[h + 1]? = some (aG 6 st)) (hH : H.length ≤ 6) (hp : isPl w B (cmb st sl) (hsL H S)) (hg : isGS w g G) (hgB : g + 7 ≤ B) (hhB : h + 2 ≤ B) (hgh : h + 1 < g ∨ g + 7 ≤ h) (hle : ∃ k, w.length = B + 7 * k) : Cl Γ yX2_keep XX2_keep 3 7 252 [.ref h, .ref g] w (rN (fun w1 => ∃ st1 : Nat → Option Nat, w1[h]? = some (oB 2 [.ref (h + 1), .int (nI (keepL H G).length)]) ∧ w1[h + 1]? = some (aG 6 st1) ∧ isPl w1 B (cmb st1 sl) (hsL (keepL H G) S) ∧ (∀ q, q < B → q ≠ h → q ≠ h + 1 → w1[q]? = w[q]?) ∧ w.length ≤ w1.length ∧ ∃ k, w1.length = B + 7 * k)) := by
  have tail2 : ∀ (kc ks : Nat) (v : PW) (H1 : List GS) (st2 : Nat → Option Nat) (gx : Nat), kc ≤ 7 → ks ≤ 252 → H1.length < 6 → H1 ++ [G] = keepL H G → st2 H1.length = some gx → isGS v g G → v[h]? = some (oB 2 [.ref (h + 1), .int (nI H1.length)]) → v[h + 1]? = some (aG 6 st2) → isPl v B (cmb st2 sl) (hsL H1 S) → (∀ q, q < B → q ≠ h → q ≠ h + 1 → v[q]? = w[q]?) → w.length ≤ v.length → (∃ k, v.length = B + 7 * k) → Rn Γ XX2_keep (rmO 3 7 252) none (FinM (rN (fun w1 => ∃ st1 : Nat → Option Nat, w1[h]? = some (oB 2 [.ref (h + 1), .int (nI (keepL H G).length)]) ∧ w1[h + 1]? = some (aG 6 st1) ∧ isPl w1 B (cmb st1 sl) (hsL (keepL H G) S) ∧ (∀ q, q < B → q ≠ h → q ≠ h + 1 → w1[q]? = w[q]?) ∧ w.length ≤ w1.length ∧ ∃ k, w1.length = B + 7 * k)) 7 252) kc ks v 62 [some (.ref h), some (.ref g), some (.ref gx)] [] := by
    intro kc ks v H1 st2 gx hkc hks hH1 hk hgx hg hu hs hp ho hl hle
    obtain ⟨⟨ax, hax⟩, Gx, hGx, -⟩ := hp.1 H1.length gx (by rw [cmb_lo hH1]; exact hgx)
    have hGx0 := hGx.1
    refine r_aload_n 63 dX2_keep_62 rfl rfl rfl ?_
    refine r_aload_n 64 dX2_keep_63 rfl rfl rfl ?_
    refine r_callV0 67 dX2_keep_64 rfl (tX1_copyFrom hGx hg (by omega)) l_X2_25 mX1_copyFrom rfl (by repeat (first | assumption | exact isBd.o (by assumption) | exact isHp.o (by assumption) | exact isGm.o (by assumption) | refine gs_eq ?_ | refine gs_ne (by omega) ?_ | exact is_of (by assumption) | refine gs_is ?_)) rfl (by decide) (Nat.le_of_ble_eq_true rfl) ⟨hkc, hks⟩ (qN fun w1 h1 => ?_)
    have d0 := h1.1.at (h := h) (by unfold gS; omega) hu
    have d1 := h1.1.at (h := h + 1) (by unfold gS; omega) hs
    refine r_aload_n 68 dX2_keep_67 rfl rfl rfl ?_
    refine r_dup 69 dX2_keep_68 rfl rfl ?_
    refine r_getf 72 dX2_keep_69 rfl f_X2_17.r (by repeat (first | assumption | exact isBd.o (by assumption) | exact isHp.o (by assumption) | exact isGm.o (by assumption) | refine gs_eq ?_ | refine gs_ne (by omega) ?_ | exact is_of (by assumption) | refine gs_is ?_)) rfl ?_
    refine r_iconst (v := 1) 73 dX2_keep_72 rfl (by decide) ?_
    refine r_iadd 74 dX2_keep_73 rfl ?_
    refine r_putf (fs1 := [_, _]) 77 dX2_keep_74 rfl f_X2_17 (by repeat (first | assumption | exact isBd.o (by assumption) | exact isHp.o (by assumption) | exact isGm.o (by assumption) | refine gs_eq ?_ | refine gs_ne (by omega) ?_ | exact is_of (by assumption) | refine gs_is ?_)) rfl (by simp only [List.length_cons, List.length_nil]; omega) rfl ?_
    refine r_vret dX2_keep_77 rfl hkc hks ?_
    have hF1 := h1.1
    refine ⟨rfl, st2, ?_, ?_, ?_, fun q a b c => ?_, ?_, ?_⟩
    · rw [← hk, List.length_append, show nI (H1.length + [G].length) = nI H1.length + 1 from nI_succ _]
      exact gs_eq (is_of d0)
    · exact gs_ne (by omega) d1
    · rw [← hk]
      refine keep_put hH1 hp hgx (fun q a b c => ?_) ?_
      · exact (List.getElem?_set_ne (by omega)).trans (hF1.2 q c)
      · exact isGm.sr h1.2 (by omega)
    · exact (List.getElem?_set_ne (by omega)).trans ((hF1.2 q (by unfold gS; omega)).trans (ho q a b c))
    · rw [List.length_set, hF1.1]
      exact hl
    · rw [List.length_set, hF1.1]
      exact hle
  have tail : ∀ (u : PW) (H1 : List GS) (st1 : Nat → Option Nat), H1.length < 6 → H1 ++ [G] = keepL H G → isGS u g G → u[h]? = some (oB 2 [.ref (h + 1), .int (nI H1.length)]) → u[h + 1]? = some (aG 6 st1) → isPl u B (cmb st1 sl) (hsL H1 S) → (∀ q, q < B → q ≠ h → q ≠ h + 1 → u[q]? = w[q]?) → w.length ≤ u.length → (∃ k, u.length = B + 7 * k) → Rn Γ XX2_keep (rmO 3 7 252) none (FinM (rN (fun w1 => ∃ st1 : Nat → Option Nat, w1[h]? = some (oB 2 [.ref (h + 1), .int (nI (keepL H G).length)]) ∧ w1[h + 1]? = some (aG 6 st1) ∧ isPl w1 B (cmb st1 sl) (hsL (keepL H G) S) ∧ (∀ q, q < B → q ≠ h → q ≠ h + 1 → w1[q]? = w[q]?) ∧ w.length ≤ w1.length ∧ ∃ k, w1.length = B + 7 * k)) 7 252) 0 0 u 13 [some (.ref h), some (.ref g), none] [] := by
    intro u H1 st1 hH1 hk hg hu hs hp ho hl hle
    obtain ⟨k0, hk0⟩ := hle
    refine r_aload_n 14 dX2_keep_13 rfl rfl rfl ?_
    refine r_getf 17 dX2_keep_14 rfl f_X2_17.r (by repeat (first | assumption | exact isBd.o (by assumption) | exact isHp.o (by assumption) | exact isGm.o (by assumption) | refine gs_eq ?_ | refine gs_ne (by omega) ?_ | exact is_of (by assumption) | refine gs_is ?_)) rfl ?_
    refine r_if_lt 29 20 dX2_keep_17 (by decide) rfl (fun q17 => absurd q17 (nI_pos (by omega))) (fun q17 => ?_)
    refine r_aload_n 21 dX2_keep_20 rfl rfl rfl ?_
    refine r_getf 24 dX2_keep_21 rfl f_X2_17.r (by repeat (first | assumption | exact isBd.o (by assumption) | exact isHp.o (by assumption) | exact isGm.o (by assumption) | refine gs_eq ?_ | refine gs_ne (by omega) ?_ | exact is_of (by assumption) | refine gs_is ?_)) rfl ?_
    refine r_bipush (v := nI 6) 26 dX2_keep_24 rfl (by decide) ?_
    refine r_icmp_lt 30 29 dX2_keep_26 (by decide) rfl (fun q26 => ?_) (fun q26 => absurd q26 (fun z => z (nI_lt hH1 (by decide))))
    refine r_aload_n 31 dX2_keep_30 rfl rfl rfl ?_
    refine r_getf 34 dX2_keep_31 rfl f_X2_11.r (by repeat (first | assumption | exact isBd.o (by assumption) | exact isHp.o (by assumption) | exact isGm.o (by assumption) | refine gs_eq ?_ | refine gs_ne (by omega) ?_ | exact is_of (by assumption) | refine gs_is ?_)) rfl ?_
    refine r_aload_n 35 dX2_keep_34 rfl rfl rfl ?_
    refine r_getf 38 dX2_keep_35 rfl f_X2_17.r (by repeat (first | assumption | exact isBd.o (by assumption) | exact isHp.o (by assumption) | exact isGm.o (by assumption) | refine gs_eq ?_ | refine gs_ne (by omega) ?_ | exact is_of (by assumption) | refine gs_is ?_)) rfl ?_
    refine r_gald 39 dX2_keep_38 rfl (H1.length) (by repeat (first | assumption | exact isBd.o (by assumption) | exact isHp.o (by assumption) | exact isGm.o (by assumption) | refine gs_eq ?_ | refine gs_ne (by omega) ?_ | exact is_of (by assumption) | refine gs_is ?_)) rfl hH1 (by decide) ?_
    rcases hst : st1 H1.length with _ | gx
    · refine r_rfN rfl ?_
      refine r_astore_n (ls1 := [_, _, _]) 40 dX2_keep_39 rfl (by decide) rfl rfl rfl ?_
      refine r_aload_n 41 dX2_keep_40 rfl rfl rfl ?_
      refine r_ifnonnullN 44 dX2_keep_41 rfl ?_
      refine r_new 47 dX2_keep_44 rfl n_X2_9 rfl (by decide) (by decide) ?_
      refine r_dup 48 dX2_keep_47 rfl rfl ?_
      refine r_callIN (ci := 0) (fs := []) 51 dX2_keep_48 rfl (tX1_init (g := u.length) (ga_n rfl) (by rw [List.length_append]; rfl)) l_X2_24 mX1_init rfl rfl (by decide) (Nat.le_of_ble_eq_true rfl) (by decide) (qN fun w1 h1 => ?_)
      have e0 := h1.1.at (h := h) (ga_o hu) (by omega)
      have e1 := h1.1.at (h := h + 1) (ga_o hs) (by omega)
      have hlen1 : w1.length = u.length + 7 := by rw [h1.1.1, List.length_append]; rfl
      have hG1 : Gr u w1 7 (fun q => q = u.length) := (Gr.gr (Gr.ap Gr.rf) h1.1 (fun q hq e => by omega)).k rfl
      have hgm1 := h1.2.1
      refine r_astore_n (ls1 := [_, _, _]) 52 dX2_keep_51 rfl (by decide) rfl rfl rfl ?_
      refine r_aload_n 53 dX2_keep_52 rfl rfl rfl ?_
      refine r_getf 56 dX2_keep_53 rfl f_X2_11.r (by repeat (first | assumption | exact isBd.o (by assumption) | exact isHp.o (by assumption) | exact isGm.o (by assumption) | refine gs_eq ?_ | refine gs_ne (by omega) ?_ | exact is_of (by assumption) | refine gs_is ?_)) rfl ?_
      refine r_aload_n 57 dX2_keep_56 rfl rfl rfl ?_
      refine r_getf 60 dX2_keep_57 rfl f_X2_17.r (by repeat (first | assumption | exact isBd.o (by assumption) | exact isHp.o (by assumption) | exact isGm.o (by assumption) | refine gs_eq ?_ | refine gs_ne (by omega) ?_ | exact is_of (by assumption) | refine gs_is ?_)) rfl ?_
      refine r_aload_n 61 dX2_keep_60 rfl rfl rfl ?_
      refine r_gast 62 dX2_keep_61 rfl (H1.length) (by repeat (first | assumption | exact isBd.o (by assumption) | exact isHp.o (by assumption) | exact isGm.o (by assumption) | refine gs_eq ?_ | refine gs_ne (by omega) ?_ | exact is_of (by assumption) | refine gs_is ?_)) rfl hH1 (by decide) (by repeat (first | assumption | exact isBd.o (by assumption) | exact isHp.o (by assumption) | exact isGm.o (by assumption) | refine gs_eq ?_ | refine gs_ne (by omega) ?_ | exact is_of (by assumption) | refine gs_is ?_)) ?_
      refine tail2 _ _ _ H1 (va_up st1 H1.length (some u.length)) u.length (by decide) (by decide) hH1 hk upo_s ?_ ?_ ?_ ?_ ?_ ?_ ?_
      · exact isGm.sr (isGm.gr hg hG1 (fun q a b e => by have := hg.lt; omega)) (by omega)
      · exact gs_ne (by omega) e0
      · exact gs_eq (is_of e1)
      · refine isPl.add (i0 := H1.length) (sa := cmb st1 sl) (g := u.length) (G := ((fun _ => -6), (fun _ => 0), 0, (-6), (fun _ => 0), (fun _ => 0), [], 600, 0, 0, 0)) ?_ (by rw [cmb_lo hH1]; exact hst) (by rw [cmb_lo hH1]; exact upo_s) (fun i hi => ?_) ⟨k0, hk0⟩ (isGm.sr h1.2 (by omega)) (fun i e => ?_)
        · refine hp.fr (fun q a b => ?_) (by rw [List.length_set, hlen1]; omega)
          exact (List.getElem?_set_ne (by omega)).trans (hG1.2 q b (by omega))
        · unfold cmb
          split
          · exact upo_n hi
          · rfl
        · obtain ⟨-, Gz, hz, -⟩ := hp.1 i _ e
          have := hz.lt
          omega
      · exact fun q a b c => (List.getElem?_set_ne (by omega)).trans ((hG1.2 q (by omega) (by omega)).trans (ho q a b c))
      · rw [List.length_set, hlen1]; omega
      · exact ⟨k0 + 1, by rw [List.length_set, hlen1, hk0]; omega⟩
    · refine r_rf rfl ?_
      refine r_astore_n (ls1 := [_, _, _]) 40 dX2_keep_39 rfl (by decide) rfl rfl rfl ?_
      refine r_aload_n 41 dX2_keep_40 rfl rfl rfl ?_
      refine r_ifnonnull 62 dX2_keep_41 (by decide) ?_
      exact tail2 0 0 u H1 st1 gx (by decide) (by decide) hH1 hk hst hg hu hs hp ho hl ⟨k0, hk0⟩
  refine Cl.of (ls := [some (.ref h), some (.ref g), none]) rfl (by decide +kernel) (fun h => by cases h) (Nat.le_of_ble_eq_true rfl) rfl ?_
  refine r_aload_n 1 dX2_keep_0 rfl rfl rfl ?_
  refine r_getf 4 dX2_keep_1 rfl f_X2_17.r (by repeat (first | assumption | exact isBd.o (by assumption) | exact isHp.o (by assumption) | exact isGm.o (by assumption) | refine gs_eq ?_ | refine gs_ne (by omega) ?_ | exact is_of (by assumption) | refine gs_is ?_)) rfl ?_
  refine r_bipush (v := nI 6) 6 dX2_keep_4 rfl (by decide) ?_
  refine r_icmp_lt 13 9 dX2_keep_6 (by decide) rfl (fun q6 => ?_) (fun q6 => ?_)
  · first
      | exact tail w H st ((nI_ltI (by omega) (by decide)).mp q6) (by rw [keepL, if_neg (by have := (nI_ltI (a := H.length) (b := 6) (by omega) (by decide)).mp q6; omega)]) hg hw hs hp (fun _ _ _ _ => rfl) (Nat.le_refl _) hle
      | exact tail w1 (H.drop 1) st1 (by rw [List.length_drop]; omega) (by rw [keepL, if_pos hH6]) (isGm.fr hg hF (fun q a b e => by omega)) (by rw [List.length_drop, hH6]; exact k1) k2 (isPl.fr (keep_drop hH6 hp k3 k4) (fun q a b => hF.2 q (by omega)) (by rw [hF.1]; exact Nat.le_refl _)) (fun q a b c => hF.2 q (by omega)) (by rw [hF.1]; exact Nat.le_refl _) (by rw [hF.1]; exact hle)
  · have hH6 : H.length = 6 := by
      rcases Nat.lt_or_ge H.length 6 with h9 | h9
      · exact absurd (nI_lt h9 (by decide)) q6
      · omega
    refine r_aload_n 10 dX2_keep_9 rfl rfl rfl ?_
    refine r_callV0 13 dX2_keep_10 rfl (tX2_dropOldest hw hs (fun i hi => by
    obtain ⟨gz, z1, z2, az, z3⟩ := hp.get (i := i) (G := H[i]'(by omega)) (by unfold hsL; rw [cmb_lo hi]; exact List.getElem?_eq_getElem (by omega))
    exact ⟨gz, by rw [← z1, cmb_lo hi], _, z2.1, by omega, by omega⟩)) l_X2_21 mX2_dropOldest rfl (by repeat (first | assumption | exact isBd.o (by assumption) | exact isHp.o (by assumption) | exact isGm.o (by assumption) | refine gs_eq ?_ | refine gs_ne (by omega) ?_ | exact is_of (by assumption) | refine gs_is ?_)) rfl (by decide) (Nat.le_of_ble_eq_true rfl) (by decide) (qN fun w1 h1 => ?_)
    obtain ⟨st1, hF, k1, k2, k3, k4⟩ := h1
    first
      | exact tail w H st ((nI_ltI (by omega) (by decide)).mp q6) (by rw [keepL, if_neg (by have := (nI_ltI (a := H.length) (b := 6) (by omega) (by decide)).mp q6; omega)]) hg hw hs hp (fun _ _ _ _ => rfl) (Nat.le_refl _) hle
      | exact tail w1 (H.drop 1) st1 (by rw [List.length_drop]; omega) (by rw [keepL, if_pos hH6]) (isGm.fr hg hF (fun q a b e => by omega)) (by rw [List.length_drop, hH6]; exact k1) k2 (isPl.fr (keep_drop hH6 hp k3 k4) (fun q a b => hF.2 q (by omega)) (by rw [hF.1]; exact Nat.le_refl _)) (fun q a b c => hF.2 q (by omega)) (by rw [hF.1]; exact Nat.le_refl _) (by rw [hF.1]; exact hle)

set_option maxRecDepth 100000 in
theorem tX2_takeBack {Γ : CT} {w : PW} {h g gx : Nat} {st : Nat → Option Nat} {H : List GS} {G G1 : GS} (hw : w[h]? = some (oB 2 [.ref (h + 1), .int (nI H.length)])) (hs : w[h + 1]? = some (aG 6 st)) (hH : H.length ≤ 6) (h0 : 0 < H.length) (hg : isGS w g G) (hgx : st (H.length - 1) = some gx) (hG1 : isGS w gx G1) (hap : g + 7 ≤ gx ∨ gx + 7 ≤ g) (hgh : h + 1 < g ∨ g + 7 ≤ h) : Cl Γ yX2_takeBack XX2_takeBack 3 0 0 [.ref h, .ref g] w (rN (fun w1 => Fr w w1 (fun q => q = h ∨ gS g q) ∧ w1[h]? = some (oB 2 [.ref (h + 1), .int (nI (H.length - 1))]) ∧ isGS w1 g G1)) := by
  refine Cl.of (ls := [some (.ref h), some (.ref g), none]) rfl (by decide +kernel) (fun h => by cases h) (Nat.le_of_ble_eq_true rfl) rfl ?_
  refine r_aload_n 1 dX2_takeBack_0 rfl rfl rfl ?_
  refine r_getf 4 dX2_takeBack_1 rfl f_X2_17.r (by repeat (first | assumption | exact isBd.o (by assumption) | exact isHp.o (by assumption) | exact isGm.o (by assumption) | refine gs_eq ?_ | refine gs_ne (by omega) ?_ | exact is_of (by assumption) | refine gs_is ?_)) rfl ?_
  refine r_iconst (v := nI 1) 5 dX2_takeBack_4 rfl (by decide) ?_
  refine r_icmp_lt 17 8 dX2_takeBack_5 (by decide) rfl (fun q5 => absurd q5 (nI_nlt h0 (by omega))) (fun q5 => ?_)
  refine r_aload_n 9 dX2_takeBack_8 rfl rfl rfl ?_
  refine r_getf 12 dX2_takeBack_9 rfl f_X2_17.r (by repeat (first | assumption | exact isBd.o (by assumption) | exact isHp.o (by assumption) | exact isGm.o (by assumption) | refine gs_eq ?_ | refine gs_ne (by omega) ?_ | exact is_of (by assumption) | refine gs_is ?_)) rfl ?_
  refine r_bipush (v := nI 6) 14 dX2_takeBack_12 rfl (by decide) ?_
  refine r_icmp_le 18 17 dX2_takeBack_14 (by decide) rfl (fun q14 => ?_) (fun q14 => absurd q14 (fun z => z (nI_le hH (by decide))))
  refine r_aload_n 19 dX2_takeBack_18 rfl rfl rfl ?_
  refine r_getf 22 dX2_takeBack_19 rfl f_X2_11.r (by repeat (first | assumption | exact isBd.o (by assumption) | exact isHp.o (by assumption) | exact isGm.o (by assumption) | refine gs_eq ?_ | refine gs_ne (by omega) ?_ | exact is_of (by assumption) | refine gs_is ?_)) rfl ?_
  refine r_aload_n 23 dX2_takeBack_22 rfl rfl rfl ?_
  refine r_getf 26 dX2_takeBack_23 rfl f_X2_17.r (by repeat (first | assumption | exact isBd.o (by assumption) | exact isHp.o (by assumption) | exact isGm.o (by assumption) | refine gs_eq ?_ | refine gs_ne (by omega) ?_ | exact is_of (by assumption) | refine gs_is ?_)) rfl ?_
  refine r_iconst (v := nI 1) 27 dX2_takeBack_26 rfl (by decide) ?_
  refine r_isub 28 dX2_takeBack_27 rfl ?_
  rw [pk_sub (by omega)]
  refine r_gald 29 dX2_takeBack_28 rfl (H.length - 1) (by repeat (first | assumption | exact isBd.o (by assumption) | exact isHp.o (by assumption) | exact isGm.o (by assumption) | refine gs_eq ?_ | refine gs_ne (by omega) ?_ | exact is_of (by assumption) | refine gs_is ?_)) rfl (by omega) (by decide) ?_
  refine r_rf hgx ?_
  refine r_astore_n (ls1 := [_, _, _]) 30 dX2_takeBack_29 rfl (by decide) rfl rfl rfl ?_
  refine r_aload_n 31 dX2_takeBack_30 rfl rfl rfl ?_
  refine r_ifnonnull 35 dX2_takeBack_31 (by decide) ?_
  refine r_aload_n 36 dX2_takeBack_35 rfl rfl rfl ?_
  refine r_aload_n 37 dX2_takeBack_36 rfl rfl rfl ?_
  refine r_callV0 40 dX2_takeBack_37 rfl (tX1_copyFrom hg hG1 hap) l_X2_25 mX1_copyFrom rfl (by repeat (first | assumption | exact isBd.o (by assumption) | exact isHp.o (by assumption) | exact isGm.o (by assumption) | refine gs_eq ?_ | refine gs_ne (by omega) ?_ | exact is_of (by assumption) | refine gs_is ?_)) rfl (by decide) (Nat.le_of_ble_eq_true rfl) (by decide) (qN fun w1 h1 => ?_)
  have d0 := h1.1.at (h := h) (by unfold gS; omega) hw
  refine r_aload_n 41 dX2_takeBack_40 rfl rfl rfl ?_
  refine r_dup 42 dX2_takeBack_41 rfl rfl ?_
  refine r_getf 45 dX2_takeBack_42 rfl f_X2_17.r (by repeat (first | assumption | exact isBd.o (by assumption) | exact isHp.o (by assumption) | exact isGm.o (by assumption) | refine gs_eq ?_ | refine gs_ne (by omega) ?_ | exact is_of (by assumption) | refine gs_is ?_)) rfl ?_
  refine r_iconst (v := nI 1) 46 dX2_takeBack_45 rfl (by decide) ?_
  refine r_isub 47 dX2_takeBack_46 rfl ?_
  rw [pk_sub (by omega)]
  refine r_putf (fs1 := [_, _]) 50 dX2_takeBack_47 rfl f_X2_17 (by repeat (first | assumption | exact isBd.o (by assumption) | exact isHp.o (by assumption) | exact isGm.o (by assumption) | refine gs_eq ?_ | refine gs_ne (by omega) ?_ | exact is_of (by assumption) | refine gs_is ?_)) rfl (by simp only [List.length_cons, List.length_nil]; omega) rfl ?_
  refine r_vret dX2_takeBack_50 rfl (by decide) (by decide) ?_
  exact ⟨rfl, (h1.1.mono (fun q z => Or.inr z)).sr (Or.inl rfl), gs_eq (is_of d0), isGm.sr h1.2 (by omega)⟩

