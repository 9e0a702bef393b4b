/-! ===== the model: states are kept ===== -/
abbrev MG : Type := GS × List P3
def zG (z : Nat → Int32) (X : MG) : Prop := zA z X.1.1 X.1.2.2.1 (gsO X.1) X.1.2.2.2.2.2.2.2.1 X.1.2.2.2.2.1 X.1.2.2.2.2.2.2.2.2.1 X.1.2.2.2.1 X.1.2.2.2.2.2.1 X.1.2.2.2.2.2.2.2.2.2.1 X.2 ∧ X.2.length ≤ 61
theorem zG.cg {z y : Nat → Int32} {X : MG} (h : zG z X) (e : ∀ k, k < 431 → y k = z k) : zG y X := ⟨h.1.cg (by have := h.2; omega) e, h.2⟩
def isKp (w : PW) (HM : List MG) (SM : Nat → Option MG) (pf : Nat → Int32) (pn : Nat) : Prop := ∃ (rm sp wr : Int32) (pa sl sv rd : Nat → Int32), w[43]? = some (oM (nI HM.length) (nI pn) rm sp wr) ∧ w[45]? = some (aI 2586 pa) ∧ HM.length ≤ 6 ∧ (∀ (i : Nat) (Y : MG), HM[i]? = some Y → zG (fun k => pa (431 * i + k)) Y) ∧ w[46]? = some (aI 862 sl) ∧ w[47]? = some (aZ 2 sv) ∧ (∀ i, i < 2 → (SM i = none → sv i = 0) ∧ ∀ Y, SM i = some Y → sv i = 1 ∧ zG (fun k => sl (431 * i + k)) Y) ∧ w[48]? = some (aC 60 pf) ∧ pn ≤ 60 ∧ w[58]? = some (aI 60 rd)
def isMD (w : PW) (X : MG) (HM : List MG) (SM : Nat → Option MG) (pf : Nat → Int32) (pn : Nat) : Prop := isKp w HM SM pf pn ∧ (∃ z, w[44]? = some (aI 431 z) ∧ zG z X) ∧ ∃ W, isW w W
def mS (q : Nat) : Prop := 43 ≤ q ∧ q < 59
def toMD (w : PW) (X : MG) (HM : List MG) (SM : Nat → Option MG) (pf : Nat → Int32) (pn : Nat) : PW → Prop := fun w1 => Fr w w1 mS ∧ isMD w1 X HM SM pf pn
def keepM (H : List MG) (X : MG) : List MG := (if H.length = 6 then H.drop 1 else H) ++ [X]
theorem isKp.fr {w v : PW} {HM : List MG} {SM : Nat → Option MG} {pf : Nat → Int32} {pn : Nat} {S : Nat → Prop} (h : isKp w HM SM pf pn) (hF : Fr w v S) (hS : ∀ q, q = 43 ∨ (45 ≤ q ∧ q < 49) ∨ q = 58 → ¬ S q) : isKp v HM SM pf pn := by
  obtain ⟨rm, sp, wr, pa, sl, sv, rd, a1, a2, a3, a4, a5, a6, a7, a8, a9, a10⟩ := h
  exact ⟨rm, sp, wr, pa, sl, sv, rd, hF.at (hS _ (by decide)) a1, hF.at (hS _ (by decide)) a2, a3, a4, hF.at (hS _ (by decide)) a5, hF.at (hS _ (by decide)) a6, a7, hF.at (hS _ (by decide)) a8, a9, hF.at (hS _ (by decide)) a10⟩
theorem isKp.z {w v : PW} {HM : List MG} {SM : Nat → Option MG} {pf : Nat → Int32} {pn : Nat} (h : isKp w HM SM pf pn) (hF : Fr w v zS) : isKp v HM SM pf pn := h.fr hF (fun q a b => by unfold zS wS at b; omega)
theorem Fr.mZ {w v : PW} (hF : Fr w v zS) : Fr w v mS := hF.mono (fun q a => by unfold zS wS at a; unfold mS; omega)
theorem Fr.mW {w v : PW} (hF : Fr w v wS) : Fr w v mS := hF.zW.mZ
theorem Fr.mR {w v : PW} (hF : Fr w v (fun q => q = 43 ∨ q = 45)) : Fr w v mS := hF.mono (fun q a => by unfold mS; omega)
theorem isMD.rf {w : PW} {X : MG} {HM : List MG} {SM : Nat → Option MG} {pf : Nat → Int32} {pn : Nat} (h : isMD w X HM SM pf pn) : toMD w X HM SM pf pn w := ⟨Fr.rf, h⟩
/-- a look changes nothing that is kept -/
theorem isMD.lk {w v : PW} {X : MG} {HM : List MG} {SM : Nat → Option MG} {pf : Nat → Int32} {pn : Nat} {V : MW} (h : isMD w X HM SM pf pn) (hF : Fr w v wS) (hV : isW v V) : toMD w X HM SM pf pn v := by
  obtain ⟨h1, ⟨z, h2, h3⟩, -⟩ := h
  exact ⟨hF.mW, h1.z hF.zW, ⟨z, hF.at (by unfold wS; decide) h2, h3⟩, V, hV⟩
def rcO (n : Nat) (pa z : Nat → Int32) (d : Nat) (pb : Nat → Int32) : Prop := d = (if n = 6 then 5 else n) ∧ (∀ k, k < 431 * d → pb k = pa (k + (if n = 6 then 431 else 0))) ∧ ∀ k, k < 431 → pb (431 * d + k) = z k
set_option maxRecDepth 100000 in
theorem tX7_record0 {Γ : CT} {w : PW} {n : Nat} {ty rm sp wr : Int32} {z pa : Nat → Int32} (ho : w[43]? = some (oM (nI n) ty rm sp wr)) (hn : n ≤ 6) (hz : w[44]? = some (aI 431 z)) (hpa : w[45]? = some (aI 2586 pa)) : Cl Γ yX7_record XX7_record 0 0 0 [.ref 43] w (rN (fun w1 => Fr w w1 (fun q => q = 43 ∨ q = 45) ∧ ∃ d pb, w1[43]? = some (oM (nI (d + 1)) ty rm sp wr) ∧ w1[45]? = some (aI 2586 pb) ∧ rcO n pa z d pb)) := by
  have tail : ∀ (d : Nat) (u : PW) (E : Nat → Int32) (x1 : Option Value), d ≤ 5 → d = (if n = 6 then 5 else n) → Fr w u (fun q => q = 43 ∨ q = 45) → u[43]? = some (oM (nI d) ty rm sp wr) → u[45]? = some (aI 2586 E) → (∀ k, k < 431 * d → E k = pa (k + (if n = 6 then 431 else 0))) → Rn Γ XX7_record (rmO 0 0 0) none (FinM (rN (fun w1 => Fr w w1 (fun q => q = 43 ∨ q = 45) ∧ ∃ d pb, w1[43]? = some (oM (nI (d + 1)) ty rm sp wr) ∧ w1[45]? = some (aI 2586 pb) ∧ rcO n pa z d pb)) 0 0) 0 0 u 50 [some (.ref 43), x1] [] := by
    intro d u E x1 hd5 hd hFu hu3 hu5 hE
    have loop : ∀ (m i : Nat) (v : PW) (E : Nat → Int32), i + m = 431 → (Fr w v (fun q => q = 43 ∨ q = 45)) → (v[43]? = some (oM (nI d) ty rm sp wr)) → (v[45]? = some (aI 2586 E)) → (∀ k, k < 431 * d → E k = pa (k + (if n = 6 then 431 else 0))) → (∀ k, k < i → E (431 * d + k) = z k) → Rn Γ XX7_record (rmO 0 0 0) none (FinM (rN (fun w1 => Fr w w1 (fun q => q = 43 ∨ q = 45) ∧ ∃ d pb, w1[43]? = some (oM (nI (d + 1)) ty rm sp wr) ∧ w1[45]? = some (aI 2586 pb) ∧ rcO n pa z d pb)) 0 0) 0 0 v 52 [some (.ref 43), some (.int (nI i))] [] := by
      intro m
      induction m with
      | zero =>
        intro i v E hi hF hv3 hv5 hE1 hE2
        have h9 : i = 431 := by omega
        subst h9
        refine r_iload_n 53 dX7_record_52 rfl rfl ?_
        refine r_sipush (v := nI 431) 56 dX7_record_53 rfl (by decide) ?_
        refine r_icmp_ge 86 59 dX7_record_56 (by decide) rfl (fun q56 => ?_) (fun q56 => absurd q56 (fun z => z (nI_le (by omega) (by omega))))
        refine r_aload_n 87 dX7_record_86 rfl rfl rfl ?_
        refine r_dup 88 dX7_record_87 rfl rfl ?_
        refine r_getf 91 dX7_record_88 rfl f_X7_72.r (by repeat (first | assumption | refine gs_eq ?_ | refine gs_ne (by omega) ?_ | exact is_of (by assumption) | refine gs_is ?_)) rfl ?_
        refine r_iconst (v := 1) 92 dX7_record_91 rfl (by decide) ?_
        refine r_iadd 93 dX7_record_92 rfl ?_
        rw [nI_1]
        refine r_putf (fs1 := [_, _, _, _, _, _, _, _, _, _, _, _, _, _, _, _, _, _, _, _]) 96 dX7_record_93 rfl f_X7_72 (by repeat (first | assumption | refine gs_eq ?_ | refine gs_ne (by omega) ?_ | exact is_of (by assumption) | refine gs_is ?_)) rfl (by simp only [List.length_cons, List.length_nil]; omega) rfl ?_
        refine r_vret dX7_record_96 rfl (by decide) (by decide) ?_
        exact ⟨rfl, Fr.tr hF (Fr.st (Or.inl rfl)), d, E, (by repeat (first | assumption | refine gs_eq ?_ | refine gs_ne (by omega) ?_ | exact is_of (by assumption) | refine gs_is ?_)), (by repeat (first | assumption | refine gs_eq ?_ | refine gs_ne (by omega) ?_ | exact is_of (by assumption) | refine gs_is ?_)), hd, hE1, hE2⟩
      | succ m ih =>
        intro i v E hi hF hv3 hv5 hE1 hE2
        have hv4 := (hF.2 44 (by decide)).trans hz
        refine r_iload_n 53 dX7_record_52 rfl rfl ?_
        refine r_sipush (v := nI 431) 56 dX7_record_53 rfl (by decide) ?_
        refine r_icmp_ge 86 59 dX7_record_56 (by decide) rfl (fun q56 => absurd q56 (nI_ge (by omega) (by omega))) (fun q56 => ?_)
        refine r_aload_n 60 dX7_record_59 rfl rfl rfl ?_
        refine r_getf 63 dX7_record_60 rfl f_X7_13.r (by repeat (first | assumption | refine gs_eq ?_ | refine gs_ne (by omega) ?_ | exact is_of (by assumption) | refine gs_is ?_)) rfl ?_
        refine r_aload_n 64 dX7_record_63 rfl rfl rfl ?_
        refine r_getf 67 dX7_record_64 rfl f_X7_72.r (by repeat (first | assumption | refine gs_eq ?_ | refine gs_ne (by omega) ?_ | exact is_of (by assumption) | refine gs_is ?_)) rfl ?_
        refine r_sipush (v := nI 431) 70 dX7_record_67 rfl (by decide) ?_
        refine r_imul 71 dX7_record_70 rfl ?_
        rw [pk_mul, Nat.mul_comm d 431]
        refine r_iload_n 72 dX7_record_71 rfl rfl ?_
        refine r_iadd 73 dX7_record_72 rfl ?_
        rw [nI_add]
        refine r_aload_n 74 dX7_record_73 rfl rfl rfl ?_
        refine r_getf 77 dX7_record_74 rfl f_X7_7.r (by repeat (first | assumption | refine gs_eq ?_ | refine gs_ne (by omega) ?_ | exact is_of (by assumption) | refine gs_is ?_)) rfl ?_
        refine r_iload_n 78 dX7_record_77 rfl rfl ?_
        refine r_iald 79 dX7_record_78 rfl (i) (by repeat (first | assumption | refine gs_eq ?_ | refine gs_ne (by omega) ?_ | exact is_of (by assumption) | refine gs_is ?_)) rfl (by omega) (by decide) ?_
        refine r_iast 80 dX7_record_79 rfl (431 * d + i) (by repeat (first | assumption | refine gs_eq ?_ | refine gs_ne (by omega) ?_ | exact is_of (by assumption) | refine gs_is ?_)) rfl (by omega) (by decide) ?_
        refine r_iinc (ls1 := [_, _]) 83 dX7_record_80 rfl (by decide) rfl rfl (nI_1 i) rfl ?_
        refine r_goto 52 dX7_record_83 (by decide) ?_
        refine ih (i + 1) _ _ (by omega) (Fr.tr hF (Fr.st (Or.inr rfl))) (by repeat (first | assumption | refine gs_eq ?_ | refine gs_ne (by omega) ?_ | exact is_of (by assumption) | refine gs_is ?_)) (by repeat (first | assumption | refine gs_eq ?_ | refine gs_ne (by omega) ?_ | exact is_of (by assumption) | refine gs_is ?_)) (fun k hk => (pk_un (by omega)).trans (hE1 k hk)) (fun k hk => ?_)
        rcases Nat.lt_or_ge k i with h | h
        · exact (pk_un (by omega)).trans (hE2 k h)
        · rw [show k = i by omega]
          exact pk_us
    refine r_iconst (v := nI 0) 51 dX7_record_50 rfl (by decide) ?_
    refine r_istore_n (ls1 := [_, _]) 52 dX7_record_51 rfl (by decide) rfl rfl ?_
    exact loop 431 0 u E (by omega) hFu hu3 hu5 hE (fun k hk => by omega)
  have shift : ∀ (m i : Nat) (v : PW) (E : Nat → Int32), i + m = 2155 → (n = 6) → (Fr w v (fun q => q = 43 ∨ q = 45)) → (v[43]? = some (oM (nI n) ty rm sp wr)) → (v[45]? = some (aI 2586 E)) → (∀ k, k < i → E k = pa (k + 431)) → (∀ k, i ≤ k → E k = pa k) → Rn Γ XX7_record (rmO 0 0 0) none (FinM (rN (fun w1 => Fr w w1 (fun q => q = 43 ∨ q = 45) ∧ ∃ d pb, w1[43]? = some (oM (nI (d + 1)) ty rm sp wr) ∧ w1[45]? = some (aI 2586 pb) ∧ rcO n pa z d pb)) 0 0) 0 0 v 11 [some (.ref 43), some (.int (nI i))] [] := by
    intro m
    induction m with
    | zero =>
      intro i v E hi h6 hF hv3 hv5 hE1 hE2
      have h9 : i = 2155 := by omega
      subst h9
      refine r_iload_n 12 dX7_record_11 rfl rfl ?_
      refine r_sipush (v := nI 2155) 15 dX7_record_12 rfl (by decide) ?_
      refine r_icmp_ge 40 18 dX7_record_15 (by decide) rfl (fun q15 => ?_) (fun q15 => absurd q15 (fun z => z (nI_le (by omega) (by omega))))
      refine r_aload_n 41 dX7_record_40 rfl rfl rfl ?_
      refine r_dup 42 dX7_record_41 rfl rfl ?_
      refine r_getf 45 dX7_record_42 rfl f_X7_72.r (by repeat (first | assumption | refine gs_eq ?_ | refine gs_ne (by omega) ?_ | exact is_of (by assumption) | refine gs_is ?_)) rfl ?_
      refine r_iconst (v := nI 1) 46 dX7_record_45 rfl (by decide) ?_
      refine r_isub 47 dX7_record_46 rfl ?_
      rw [pk_sub (by omega)]
      refine r_putf (fs1 := [_, _, _, _, _, _, _, _, _, _, _, _, _, _, _, _, _, _, _, _]) 50 dX7_record_47 rfl f_X7_72 (by repeat (first | assumption | refine gs_eq ?_ | refine gs_ne (by omega) ?_ | exact is_of (by assumption) | refine gs_is ?_)) rfl (by simp only [List.length_cons, List.length_nil]; omega) rfl ?_
      exact tail (n - 1) _ E _ (by omega) (by rw [if_pos h6]; omega) (Fr.tr hF (Fr.st (Or.inl rfl))) (by repeat (first | assumption | refine gs_eq ?_ | refine gs_ne (by omega) ?_ | exact is_of (by assumption) | refine gs_is ?_)) (by repeat (first | assumption | refine gs_eq ?_ | refine gs_ne (by omega) ?_ | exact is_of (by assumption) | refine gs_is ?_)) (fun k hk => by rw [if_pos h6]; exact hE1 k (by omega))
    | succ m ih =>
      intro i v E hi h6 hF hv3 hv5 hE1 hE2
      refine r_iload_n 12 dX7_record_11 rfl rfl ?_
      refine r_sipush (v := nI 2155) 15 dX7_record_12 rfl (by decide) ?_
      refine r_icmp_ge 40 18 dX7_record_15 (by decide) rfl (fun q15 => absurd q15 (nI_ge (by omega) (by omega))) (fun q15 => ?_)
      refine r_aload_n 19 dX7_record_18 rfl rfl rfl ?_
      refine r_getf 22 dX7_record_19 rfl f_X7_13.r (by repeat (first | assumption | refine gs_eq ?_ | refine gs_ne (by omega) ?_ | exact is_of (by assumption) | refine gs_is ?_)) rfl ?_
      refine r_iload_n 23 dX7_record_22 rfl rfl ?_
      refine r_aload_n 24 dX7_record_23 rfl rfl rfl ?_
      refine r_getf 27 dX7_record_24 rfl f_X7_13.r (by repeat (first | assumption | refine gs_eq ?_ | refine gs_ne (by omega) ?_ | exact is_of (by assumption) | refine gs_is ?_)) rfl ?_
      refine r_iload_n 28 dX7_record_27 rfl rfl ?_
      refine r_sipush (v := nI 431) 31 dX7_record_28 rfl (by decide) ?_
      refine r_iadd 32 dX7_record_31 rfl ?_
      rw [nI_add]
      refine r_iald 33 dX7_record_32 rfl (i + 431) (by repeat (first | assumption | refine gs_eq ?_ | refine gs_ne (by omega) ?_ | exact is_of (by assumption) | refine gs_is ?_)) rfl (by omega) (by decide) ?_
      rw [hE2 (i + 431) (by omega)]
      refine r_iast 34 dX7_record_33 rfl (i) (by repeat (first | assumption | refine gs_eq ?_ | refine gs_ne (by omega) ?_ | exact is_of (by assumption) | refine gs_is ?_)) rfl (by omega) (by decide) ?_
      refine r_iinc (ls1 := [_, _]) 37 dX7_record_34 rfl (by decide) rfl rfl (nI_1 i) rfl ?_
      refine r_goto 11 dX7_record_37 (by decide) ?_
      refine ih (i + 1) _ _ (by omega) h6 (Fr.tr hF (Fr.st (Or.inr rfl))) (by repeat (first | assumption | refine gs_eq ?_ | refine gs_ne (by omega) ?_ | exact is_of (by assumption) | refine gs_is ?_)) (by repeat (first | assumption | refine gs_eq ?_ | refine gs_ne (by omega) ?_ | exact is_of (by assumption) | refine gs_is ?_)) (fun k hk => ?_) (fun k hk => (pk_un (by omega)).trans (hE2 k (by omega)))
      rcases Nat.lt_or_ge k i with h | h
      · exact (pk_un (by omega)).trans (hE1 k h)
      · rw [show k = i by omega]
        exact pk_us
  refine Cl.of (ls := [some (.ref 43), none]) rfl (by decide +kernel) (fun h => by cases h) (Nat.le_of_ble_eq_true rfl) rfl ?_
  refine r_aload_n 1 dX7_record_0 rfl rfl rfl ?_
  refine r_getf 4 dX7_record_1 rfl f_X7_72.r (by repeat (first | assumption | refine gs_eq ?_ | refine gs_ne (by omega) ?_ | exact is_of (by assumption) | refine gs_is ?_)) rfl ?_
  refine r_bipush (v := nI 6) 6 dX7_record_4 rfl (by decide) ?_
  refine r_icmp_ne 50 9 dX7_record_6 (by decide) rfl (fun q6 => ?_) (fun q6 => ?_)
  · exact tail n w pa _ (by have : n ≠ 6 := (fun z => q6 (by rw [z])); omega) (by rw [if_neg (fun z => q6 (by rw [z]))]) Fr.rf ho hpa (fun k hk => by rw [if_neg (fun z => q6 (by rw [z])), Nat.add_zero])
  · refine r_iconst (v := nI 0) 10 dX7_record_9 rfl (by decide) ?_
    refine r_istore_n (ls1 := [_, _]) 11 dX7_record_10 rfl (by decide) rfl rfl ?_
    exact shift 2155 0 w pa (by omega) ((nI_eq (by omega) (by decide)).mp q6) Fr.rf ho hpa (fun k hk => by omega) (fun _ _ => rfl)

theorem tX7_record {Γ : CT} {w : PW} {HM : List MG} {SM : Nat → Option MG} {pf : Nat → Int32} {pn : Nat} {z : Nat → Int32} {X : MG} (hk : isKp w HM SM pf pn) (hz : w[44]? = some (aI 431 z)) (hG : zG z X) : Cl Γ yX7_record XX7_record 0 0 0 [.ref 43] w (rN (fun w1 => Fr w w1 (fun q => q = 43 ∨ q = 45) ∧ isKp w1 (keepM HM X) SM pf pn)) := by
  obtain ⟨rm, sp, wr, pa, sl, sv, rd, ho, hpa, hH6, hpH, hsl, hsv, hpS, hpd, hpn, hrd⟩ := id hk
  refine Cl.mono (tX7_record0 ho hH6 hz hpa) (fun r w1 h => ⟨h.1, h.2.1, ?_⟩)
  obtain ⟨-, hF, d, pb, k1, k2, k3, k4, k5⟩ := h
  have hlen : (keepM HM X).length = d + 1 := by
    unfold keepM
    rw [List.length_append, k3]
    split
    · rw [List.length_drop]
      show HM.length - 1 + 1 = 5 + 1
      omega
    · rfl
  refine ⟨rm, sp, wr, pb, sl, sv, rd, by rw [hlen]; exact k1, k2, by rw [hlen, k3]; split <;> omega, fun i Y hi => ?_, hF.at (by decide) hsl, hF.at (by decide) hsv, hpS, hF.at (by decide) hpd, hpn, hF.at (by decide) hrd⟩
  have hil : i < d + 1 := by rw [← hlen]; exact (List.getElem?_eq_some_iff.mp hi).1
  rcases Nat.lt_or_ge i d with h | h
  · unfold keepM at hi
    by_cases h6 : HM.length = 6
    · rw [if_pos h6] at hi k3
      rw [List.getElem?_append_left (by rw [List.length_drop]; omega), List.getElem?_drop] at hi
      refine (hpH _ Y hi).cg (fun k hk431 => ?_)
      show pb (431 * i + k) = pa (431 * (1 + i) + k)
      rw [k4 _ (by omega), if_pos h6]
      congr 1
      omega
    · rw [if_neg h6] at hi k3
      rw [List.getElem?_append_left (by omega)] at hi
      refine (hpH _ Y hi).cg (fun k hk431 => ?_)
      show pb (431 * i + k) = pa (431 * i + k)
      rw [k4 _ (by omega), if_neg h6, Nat.add_zero]
  · have e : i = d := by omega
    subst e
    have hY : Y = X := by
      unfold keepM at hi
      have hl2 : (if HM.length = 6 then HM.drop 1 else HM).length = i := by
        rw [k3]
        split
        · rw [List.length_drop]; omega
        · rfl
      rw [List.getElem?_append_right (by omega), hl2, Nat.sub_self] at hi
      exact (Option.some.inj hi).symm
    rw [hY]
    exact hG.cg (fun k hk431 => k5 k hk431)
