/-! ===== the whole object ===== -/
def Ag (w w1 : PW) (S : Nat → Prop) : Prop := ∀ q, S q → w1[q]? = w[q]?
theorem isBd.ag {w w1 : PW} {b : Nat} {f n : Nat → Int32} {mv jp : Int32} (h : isBd w b f n mv jp) (hA : ∀ q, b ≤ q → q < b + 3 → w1[q]? = w[q]?) : isBd w1 b f n mv jp := ⟨(hA _ (by omega) (by omega)).trans h.1, (hA _ (by omega) (by omega)).trans h.2.1, (hA _ (by omega) (by omega)).trans h.2.2⟩
theorem isHp.ag {w w1 : PW} {h : Nat} {l : List HP} (k : isHp w h l) (hA : ∀ q, h ≤ q → q < h + 6 → w1[q]? = w[q]?) : isHp w1 h l := by
  obtain ⟨k0, a, b, c, d, e, k1, k2, k3, k4, k5, k6, k7⟩ := k
  exact ⟨k0, a, b, c, d, e, k1, (hA _ (by omega) (by omega)).trans k2, (hA _ (by omega) (by omega)).trans k3, (hA _ (by omega) (by omega)).trans k4, (hA _ (by omega) (by omega)).trans k5, (hA _ (by omega) (by omega)).trans k6, (hA _ (by omega) (by omega)).trans k7⟩
theorem isGm.ag {w w1 : PW} {g : Nat} {f n : Nat → Int32} {mv jp : Int32} {cl lo : Nat → Int32} {ps : List T3} {cs mk qt oc : Int32} (h : isGm w g f n mv jp cl lo ps cs mk qt oc) (hA : ∀ q, g ≤ q → q < g + 7 → w1[q]? = w[q]?) : isGm w1 g f n mv jp cl lo ps cs mk qt oc := by
  obtain ⟨h0, h1, h2, h3, h4, pf, h5, h6⟩ := h
  exact ⟨(hA _ (by omega) (by omega)).trans h0, h1.ag (fun q a b => hA q (by omega) (by omega)), (hA _ (by omega) (by omega)).trans h2, (hA _ (by omega) (by omega)).trans h3, h4, pf, h5, (hA _ (by omega) (by omega)).trans h6⟩
theorem isPd.ag {w w1 : PW} {h : Nat} {pf : Nat → Int32} {pn : Nat} (k : isPd w h pf pn) (h0 : w1[h]? = w[h]?) (h1 : w1[h + 1]? = w[h + 1]?) : isPd w1 h pf pn := ⟨h0.trans k.1, h1.trans k.2.1, k.2.2⟩
/-- the fixed cells: the object itself, and the boards at work -/
def isTp (w : PW) : Prop := w[0]? = some (oB 6 [.ref 1, .ref 8, .ref 10, .ref 11, .ref 13]) ∧ w[13]? = some (oB 5 [.ref 34, .ref 37, .ref 14]) ∧ w[14]? = some (oB 5 [.ref 25, .ref 28, .ref 15]) ∧ w[15]? = some (oB 5 [.ref 16, .ref 19, .null])
def xBd (w : PW) (b : Nat) : Prop := ∃ f n mv jp, isBd w b f n mv jp
def xHp (w : PW) (h : Nat) : Prop := ∃ l, isHp w h l
def isSc (w : PW) : Prop := xBd w 34 ∧ xHp w 37 ∧ xBd w 25 ∧ xHp w 28 ∧ xBd w 16 ∧ xHp w 19
def isHi (w : PW) (H : List GS) (S : Nat → Option GS) : Prop := ∃ st sl : Nat → Option Nat, w[8]? = some (oB 2 [.ref 9, .int (nI H.length)]) ∧ w[9]? = some (aG 6 st) ∧ w[10]? = some (aG 2 sl) ∧ H.length ≤ 6 ∧ isPl w 59 (cmb st sl) (hsL H S) ∧ (∀ j, S j = none → sl j = none) ∧ ∃ k, w.length = 59 + 7 * k
def isRD (w : PW) (G : GS) (H : List GS) (S : Nat → Option GS) (pf : Nat → Int32) (pn : Nat) : Prop := isTp w ∧ isGS w 1 G ∧ isHi w H S ∧ isPd w 11 pf pn ∧ isSc w
/-- the cells of the other one -/
def FrM (w w1 : PW) : Prop := ∀ q, 43 ≤ q → q < 59 → w1[q]? = w[q]?
def toRD (w : PW) (G : GS) (H : List GS) (S : Nat → Option GS) (pf : Nat → Int32) (pn : Nat) : PW → Prop := fun w1 => isRD w1 G H S pf pn ∧ FrM w w1
theorem isTp.ag {w w1 : PW} (k : isTp w) (h0 : w1[0]? = w[0]?) (h1 : w1[13]? = w[13]?) (h2 : w1[14]? = w[14]?) (h3 : w1[15]? = w[15]?) : isTp w1 := ⟨h0.trans k.1, h1.trans k.2.1, h2.trans k.2.2.1, h3.trans k.2.2.2⟩
theorem xBd.ag {w w1 : PW} {b : Nat} (k : xBd w b) (hA : ∀ q, b ≤ q → q < b + 3 → w1[q]? = w[q]?) : xBd w1 b := by
  obtain ⟨f, n, mv, jp, h⟩ := k
  exact ⟨f, n, mv, jp, h.ag hA⟩
theorem xHp.ag {w w1 : PW} {b : Nat} (k : xHp w b) (hA : ∀ q, b ≤ q → q < b + 6 → w1[q]? = w[q]?) : xHp w1 b := by
  obtain ⟨l, h⟩ := k
  exact ⟨l, h.ag hA⟩
theorem isSc.ag {w w1 : PW} (k : isSc w) (hA : ∀ q, 16 ≤ q → q < 43 → w1[q]? = w[q]?) : isSc w1 := ⟨k.1.ag (fun q a b => hA q (by omega) (by omega)), k.2.1.ag (fun q a b => hA q (by omega) (by omega)), k.2.2.1.ag (fun q a b => hA q (by omega) (by omega)), k.2.2.2.1.ag (fun q a b => hA q (by omega) (by omega)), k.2.2.2.2.1.ag (fun q a b => hA q (by omega) (by omega)), k.2.2.2.2.2.ag (fun q a b => hA q (by omega) (by omega))⟩
theorem isHi.fr {w w1 : PW} {H : List GS} {S : Nat → Option GS} {T : Nat → Prop} (k : isHi w H S) (hF : Fr w w1 T) (h : ∀ q, T q → q < 59 ∧ q ≠ 8 ∧ q ≠ 9 ∧ q ≠ 10) : isHi w1 H S := by
  obtain ⟨st, sl, h1, h2, h3, h4, h5, h6, h7⟩ := k
  exact ⟨st, sl, hF.at (fun z => (h _ z).2.1 rfl) h1, hF.at (fun z => (h _ z).2.2.1 rfl) h2, hF.at (fun z => (h _ z).2.2.2 rfl) h3, h4, h5.fr (fun q a b => hF.2 q (fun z => by have := (h q z).1; omega)) (by rw [hF.1]; exact Nat.le_refl _), h6, by rw [hF.1]; exact h7⟩
theorem isRD.game {w w1 : PW} {G G1 : GS} {H : List GS} {S : Nat → Option GS} {pf : Nat → Int32} {pn : Nat} (k : isRD w G H S pf pn) (hF : Fr w w1 (gS 1)) (hG : isGS w1 1 G1) : toRD w G1 H S pf pn w1 := by
  obtain ⟨k1, k2, k3, k4, k5⟩ := k
  have hA : ∀ q, (q < 1 ∨ 8 ≤ q) → w1[q]? = w[q]? := fun q h => hF.2 q (by unfold gS; omega)
  exact ⟨⟨k1.ag (hA _ (by omega)) (hA _ (by omega)) (hA _ (by omega)) (hA _ (by omega)), hG, k3.fr hF (fun q h => by unfold gS at h; omega), k4.ag (hA _ (by omega)) (hA _ (by omega)), k5.ag (fun q a b => hA q (by omega))⟩, fun q a b => hA q (by omega)⟩
theorem isRD.scr {w w1 : PW} {G : GS} {H : List GS} {S : Nat → Option GS} {pf : Nat → Int32} {pn : Nat} (k : isRD w G H S pf pn) (hF : Fr w w1 (fun q => 16 ≤ q ∧ q < 43)) (hS : isSc w1) : toRD w G H S pf pn w1 := by
  obtain ⟨k1, k2, k3, k4, k5⟩ := k
  have hA : ∀ q, (q < 16 ∨ 43 ≤ q) → w1[q]? = w[q]? := fun q h => hF.2 q (by omega)
  exact ⟨⟨k1.ag (hA _ (by omega)) (hA _ (by omega)) (hA _ (by omega)) (hA _ (by omega)), isGm.ag k2 (fun q a b => hA q (by omega)), k3.fr hF (fun q h => by omega), k4.ag (hA _ (by omega)) (hA _ (by omega)), hS⟩, fun q a b => hA q (by omega)⟩
theorem isRD.pad {w w1 : PW} {G : GS} {H : List GS} {S : Nat → Option GS} {pf pg : Nat → Int32} {pn pm : Nat} (k : isRD w G H S pf pn) (hF : Fr w w1 (pS 11)) (hP : isPd w1 11 pg pm) : toRD w G H S pg pm w1 := by
  obtain ⟨k1, k2, k3, k4, k5⟩ := k
  have hA : ∀ q, (q < 11 ∨ 13 ≤ q) → w1[q]? = w[q]? := fun q h => hF.2 q (by unfold pS; omega)
  exact ⟨⟨k1.ag (hA _ (by omega)) (hA _ (by omega)) (hA _ (by omega)) (hA _ (by omega)), isGm.ag k2 (fun q a b => hA q (by omega)), k3.fr hF (fun q h => by unfold pS at h; omega), hP, k5.ag (fun q a b => hA q (by omega))⟩, fun q a b => hA q (by omega)⟩
theorem toRD.tr {w w1 w2 : PW} {G1 G2 : GS} {H1 H2 : List GS} {S1 S2 : Nat → Option GS} {pf1 pf2 : Nat → Int32} {pn1 pn2 : Nat} (k : toRD w G1 H1 S1 pf1 pn1 w1) (k2 : toRD w1 G2 H2 S2 pf2 pn2 w2) : toRD w G2 H2 S2 pf2 pn2 w2 := ⟨k2.1, fun q a b => (k2.2 q a b).trans (k.2 q a b)⟩
theorem isRD.rf {w : PW} {G : GS} {H : List GS} {S : Nat → Option GS} {pf : Nat → Int32} {pn : Nat} (k : isRD w G H S pf pn) : toRD w G H S pf pn w := ⟨k, fun _ _ _ => rfl⟩
theorem Cl.mono {Γ : CT} {y : MethodName} {X : MX} {d mc ms : Nat} {args : List Value} {w : PW} {Q Q' : Option Value → PW → Prop} (h : Cl Γ y X d mc ms args w Q) (hQ : ∀ r w', Q r w' → Q' r w') : Cl Γ y X d mc ms args w Q' := by
  intro l p e ha hc hk s m a below hf happ hP hK
  obtain ⟨n, o, h1, h2, h3, ⟨r, w', e1, e2, e3⟩, h5⟩ := h l p e ha hc hk s m a below hf happ hP hK
  exact ⟨n, o, h1, h2, h3, ⟨r, w', e1, hQ r w' e2, e3⟩, h5⟩
/-- the state of now is kept -/
theorem tKeep {Γ : CT} {w : PW} {G : GS} {H : List GS} {S : Nat → Option GS} {pf : Nat → Int32} {pn : Nat} (k : isRD w G H S pf pn) : Cl Γ yX2_keep XX2_keep 3 7 252 [.ref 8, .ref 1] w (rN (fun w1 => toRD w G (keepL H G) S pf pn w1 ∧ ∀ q, q < 59 → q ≠ 8 → q ≠ 9 → w1[q]? = w[q]?)) := by
  obtain ⟨k1, k2, ⟨st, sl, h1, h2, h3, h4, h5, h6, h7⟩, k4, k5⟩ := k
  refine Cl.mono (tX2_keep (Γ := Γ) (h := 8) (g := 1) (B := 59) h1 h2 h4 h5 k2 (by decide) (by decide) (by decide) h7) (fun r w1 hq => ?_)
  obtain ⟨hr, st1, a1, a2, a3, a4, a5, a6⟩ := hq
  have hA : ∀ q, q < 59 → q ≠ 8 → q ≠ 9 → w1[q]? = w[q]? := fun q a b c => a4 q a b c
  exact ⟨hr, ⟨⟨k1.ag (hA _ (by decide) (by decide) (by decide)) (hA _ (by decide) (by decide) (by decide)) (hA _ (by decide) (by decide) (by decide)) (hA _ (by decide) (by decide) (by decide)), isGm.ag k2 (fun q a b => hA q (by omega) (by omega) (by omega)), ⟨st1, sl, a1, a2, (hA _ (by decide) (by decide) (by decide)).trans h3, keepL_le h4, a3, h6, a6⟩, k4.ag (hA _ (by decide) (by decide) (by decide)) (hA _ (by decide) (by decide) (by decide)), k5.ag (fun q a b => hA q (by omega) (by omega) (by omega))⟩, fun q a b => hA q (by omega) (by omega) (by omega)⟩, hA⟩
def hopsN (f : Nat → Int32) (mv jp oc : Int32) : List HP := if oc = 0 then hopsC f mv jp else []
set_option maxRecDepth 100000 in
theorem tX6_hopsOfNow {Γ : CT} {w : PW} {f n : Nat → Int32} {mv jp : Int32} {cl lo : Nat → Int32} {ps : List T3} {cs mk qt oc : Int32} {H : List GS} {S : Nat → Option GS} {pf : Nat → Int32} {pn : Nat} (hr : isRD w (f, n, mv, jp, cl, lo, ps, cs, mk, qt, oc) H S pf pn) (hmv : mv = 0 ∨ mv = 1) : Cl Γ yX6_hopsOfNow XX6_hopsOfNow 5 0 0 [.ref 0] w (rRP 37 (fun w1 => Fr w w1 (fun q => 16 ≤ q ∧ q < 43) ∧ isSc w1 ∧ isHp w1 37 (hopsN f mv jp oc) ∧ isBd w1 34 f n mv jp)) := by
  refine Cl.of (ls := [some (.ref 0)]) rfl (by decide +kernel) (fun h => by cases h) (Nat.le_of_ble_eq_true rfl) rfl ?_
  obtain ⟨⟨r0, r13, r14, r15⟩, rg, ⟨st, sl, r8, r9, r10, rH, rp, rS, rk⟩, rd, rs⟩ := id hr
  have rG : isGm w 1 f n mv jp cl lo ps cs mk qt oc := rg
  obtain ⟨g1, gb, g5, g6, gl, pfG, gO, g7⟩ := id rG
  have gb0 := gb.1
  have rd0 := rd.1
  obtain ⟨⟨f1, n1, v1, p1, s34⟩, ⟨l37, s37⟩, s25, s28, s16, s19⟩ := id rs
  have s370 := s37.o
  refine r_aload_n 1 dX6_hopsOfNow_0 rfl rfl rfl ?_
  refine r_getf 4 dX6_hopsOfNow_1 rfl f_X6_39.r (by repeat (first | assumption | exact isBd.o (by assumption) | exact isHp.o (by assumption) | exact isGm.o (by assumption) | exact isPd.o (by assumption) | refine gs_eq ?_ | refine gs_ne (by omega) ?_ | exact is_of (by assumption) | refine gs_is ?_)) rfl ?_
  refine r_getf 7 dX6_hopsOfNow_4 rfl f_X6_204 (by repeat (first | assumption | exact isBd.o (by assumption) | exact isHp.o (by assumption) | exact isGm.o (by assumption) | exact isPd.o (by assumption) | refine gs_eq ?_ | refine gs_ne (by omega) ?_ | exact is_of (by assumption) | refine gs_is ?_)) rfl ?_
  refine r_aload_n 8 dX6_hopsOfNow_7 rfl rfl rfl ?_
  refine r_getf 11 dX6_hopsOfNow_8 rfl f_X6_10.r (by repeat (first | assumption | exact isBd.o (by assumption) | exact isHp.o (by assumption) | exact isGm.o (by assumption) | exact isPd.o (by assumption) | refine gs_eq ?_ | refine gs_ne (by omega) ?_ | exact is_of (by assumption) | refine gs_is ?_)) rfl ?_
  refine r_getf 14 dX6_hopsOfNow_11 rfl f_X6_55 (by repeat (first | assumption | exact isBd.o (by assumption) | exact isHp.o (by assumption) | exact isGm.o (by assumption) | exact isPd.o (by assumption) | refine gs_eq ?_ | refine gs_ne (by omega) ?_ | exact is_of (by assumption) | refine gs_is ?_)) rfl ?_
  refine r_callV0 17 dX6_hopsOfNow_14 rfl (tX0_copyFrom s34 gb (by decide)) l_X6_205 mX0_copyFrom rfl (by repeat (first | assumption | exact isBd.o (by assumption) | exact isHp.o (by assumption) | exact isGm.o (by assumption) | exact isPd.o (by assumption) | refine gs_eq ?_ | refine gs_ne (by omega) ?_ | exact is_of (by assumption) | refine gs_is ?_)) rfl (by decide) (Nat.le_of_ble_eq_true rfl) (by decide) (qN fun w1 h1 => ?_)
  have hF := h1.1
  have c34 := h1.2
  have c37 := s37.ag (fun q a b => hF.2 q (by unfold bS; omega))
  have c370 := c37.o
  have hA : ∀ q, (q < 34 ∨ 37 ≤ q) → w1[q]? = w[q]? := fun q a => hF.2 q (by unfold bS; omega)
  have c0 := (hA 0 (by decide)).trans r0
  have c13 := (hA 13 (by decide)).trans r13
  have c1 := (hA 1 (by decide)).trans g1
  refine r_aload_n 18 dX6_hopsOfNow_17 rfl rfl rfl ?_
  refine r_getf 21 dX6_hopsOfNow_18 rfl f_X6_39.r (by repeat (first | assumption | exact isBd.o (by assumption) | exact isHp.o (by assumption) | exact isGm.o (by assumption) | exact isPd.o (by assumption) | refine gs_eq ?_ | refine gs_ne (by omega) ?_ | exact is_of (by assumption) | refine gs_is ?_)) rfl ?_
  refine r_getf 24 dX6_hopsOfNow_21 rfl f_X6_236 (by repeat (first | assumption | exact isBd.o (by assumption) | exact isHp.o (by assumption) | exact isGm.o (by assumption) | exact isPd.o (by assumption) | refine gs_eq ?_ | refine gs_ne (by omega) ?_ | exact is_of (by assumption) | refine gs_is ?_)) rfl ?_
  refine r_iconst (v := 0) 25 dX6_hopsOfNow_24 rfl (by decide) ?_
  refine r_putf (fs1 := [_, _, _, _, _, _]) 28 dX6_hopsOfNow_25 rfl f_X6_188 (by repeat (first | assumption | exact isBd.o (by assumption) | exact isHp.o (by assumption) | exact isGm.o (by assumption) | exact isPd.o (by assumption) | refine gs_eq ?_ | refine gs_ne (by omega) ?_ | exact is_of (by assumption) | refine gs_is ?_)) rfl (by simp only [List.length_cons, List.length_nil]; omega) rfl ?_
  have hz := c37.zero
  have c34b := c34
  have c34 := c34b.ag (fun q a b => hz.1.2 q (by unfold hS; omega))
  have d0 := (hz.1.2 0 (by unfold hS; omega)).trans c0
  have d13 := (hz.1.2 13 (by unfold hS; omega)).trans c13
  have d1 := (hz.1.2 1 (by unfold hS; omega)).trans c1
  have d37 := hz.2.o
  have d34 := c34.o
  refine r_aload_n 29 dX6_hopsOfNow_28 rfl rfl rfl ?_
  refine r_getf 32 dX6_hopsOfNow_29 rfl f_X6_10.r (by repeat (first | assumption | exact isBd.o (by assumption) | exact isHp.o (by assumption) | exact isGm.o (by assumption) | exact isPd.o (by assumption) | refine gs_eq ?_ | refine gs_ne (by omega) ?_ | exact is_of (by assumption) | refine gs_is ?_)) rfl ?_
  refine r_getf 35 dX6_hopsOfNow_32 rfl f_X6_105.r (by repeat (first | assumption | exact isBd.o (by assumption) | exact isHp.o (by assumption) | exact isGm.o (by assumption) | exact isPd.o (by assumption) | refine gs_eq ?_ | refine gs_ne (by omega) ?_ | exact is_of (by assumption) | refine gs_is ?_)) rfl ?_
  refine r_if_ne 55 38 dX6_hopsOfNow_35 (by decide) rfl (fun q35 => ?_) (fun q35 => ?_)
  · have hfin : ∃ w3 : PW, w3 = w3 := ⟨w, rfl⟩
    refine r_aload_n 56 dX6_hopsOfNow_55 rfl rfl rfl ?_
    refine r_getf 59 dX6_hopsOfNow_56 rfl f_X6_39.r (by repeat (first | assumption | exact isBd.o (by assumption) | exact isHp.o (by assumption) | exact isGm.o (by assumption) | exact isPd.o (by assumption) | refine gs_eq ?_ | refine gs_ne (by omega) ?_ | exact is_of (by assumption) | refine gs_is ?_)) rfl ?_
    refine r_getf 62 dX6_hopsOfNow_59 rfl f_X6_236 (by repeat (first | assumption | exact isBd.o (by assumption) | exact isHp.o (by assumption) | exact isGm.o (by assumption) | exact isPd.o (by assumption) | refine gs_eq ?_ | refine gs_ne (by omega) ?_ | exact is_of (by assumption) | refine gs_is ?_)) rfl ?_
    refine r_aret dX6_hopsOfNow_62 rfl (by decide) (by decide) ?_
    first
      | (have e : hopsN f mv jp oc = [] := by rw [hopsN, if_neg q35]
         rw [e]
         refine ⟨rfl, (hF.mono (fun q a => ⟨by have := a.1; omega, by have := a.2; omega⟩)).tr (hz.1.mono (fun q a => ⟨by have := a.1; omega, by have := a.2; omega⟩)), ⟨⟨_, _, _, _, c34⟩, ⟨_, hz.2⟩, ?_, ?_, ?_, ?_⟩, hz.2, c34⟩
         · exact s25.ag (fun q a b => (hz.1.2 q (by unfold hS; omega)).trans (hA q (by omega)))
         · exact s28.ag (fun q a b => (hz.1.2 q (by unfold hS; omega)).trans (hA q (by omega)))
         · exact s16.ag (fun q a b => (hz.1.2 q (by unfold hS; omega)).trans (hA q (by omega)))
         · exact s19.ag (fun q a b => (hz.1.2 q (by unfold hS; omega)).trans (hA q (by omega))))
      | (have e : hopsN f mv jp oc = hopsC f mv jp := by rw [hopsN, if_pos q35]
         rw [e]
         have hA2 : ∀ q, (q < 34 ∨ 43 ≤ q) → w2[q]? = w[q]? := fun q a => (hF2.2 q (by unfold hS; omega)).trans ((hz.1.2 q (by unfold hS; omega)).trans (hA q (by omega)))
         refine ⟨rfl, ((hF.mono (fun q a => ⟨by have := a.1; omega, by have := a.2; omega⟩)).tr (hz.1.mono (fun q a => ⟨by have := a.1; omega, by have := a.2; omega⟩))).tr (hF2.mono (fun q a => ⟨by have := a.1; omega, by have := a.2; omega⟩)), ⟨⟨_, _, _, _, e34⟩, ⟨_, h2.2⟩, ?_, ?_, ?_, ?_⟩, h2.2, e34⟩
         · exact s25.ag (fun q a b => hA2 q (by omega))
         · exact s28.ag (fun q a b => hA2 q (by omega))
         · exact s16.ag (fun q a b => hA2 q (by omega))
         · exact s19.ag (fun q a b => hA2 q (by omega)))
  · refine r_aload_n 39 dX6_hopsOfNow_38 rfl rfl rfl ?_
    refine r_getf 42 dX6_hopsOfNow_39 rfl f_X6_39.r (by repeat (first | assumption | exact isBd.o (by assumption) | exact isHp.o (by assumption) | exact isGm.o (by assumption) | exact isPd.o (by assumption) | refine gs_eq ?_ | refine gs_ne (by omega) ?_ | exact is_of (by assumption) | refine gs_is ?_)) rfl ?_
    refine r_getf 45 dX6_hopsOfNow_42 rfl f_X6_236 (by repeat (first | assumption | exact isBd.o (by assumption) | exact isHp.o (by assumption) | exact isGm.o (by assumption) | exact isPd.o (by assumption) | refine gs_eq ?_ | refine gs_ne (by omega) ?_ | exact is_of (by assumption) | refine gs_is ?_)) rfl ?_
    refine r_aload_n 46 dX6_hopsOfNow_45 rfl rfl rfl ?_
    refine r_getf 49 dX6_hopsOfNow_46 rfl f_X6_39.r (by repeat (first | assumption | exact isBd.o (by assumption) | exact isHp.o (by assumption) | exact isGm.o (by assumption) | exact isPd.o (by assumption) | refine gs_eq ?_ | refine gs_ne (by omega) ?_ | exact is_of (by assumption) | refine gs_is ?_)) rfl ?_
    refine r_getf 52 dX6_hopsOfNow_49 rfl f_X6_204 (by repeat (first | assumption | exact isBd.o (by assumption) | exact isHp.o (by assumption) | exact isGm.o (by assumption) | exact isPd.o (by assumption) | refine gs_eq ?_ | refine gs_ne (by omega) ?_ | exact is_of (by assumption) | refine gs_is ?_)) rfl ?_
    refine r_callV0 55 dX6_hopsOfNow_52 rfl (tX3_list c34 hz.2 (by unfold apH; decide) (lenJ hmv) (lenM hmv)) l_X6_240 mX3_list rfl (by repeat (first | assumption | exact isBd.o (by assumption) | exact isHp.o (by assumption) | exact isGm.o (by assumption) | exact isPd.o (by assumption) | refine gs_eq ?_ | refine gs_ne (by omega) ?_ | exact is_of (by assumption) | refine gs_is ?_)) rfl (by decide) (Nat.le_of_ble_eq_true rfl) (by decide) (qN fun w2 h2 => ?_)
    have hF2 := h2.1
    have e34 := c34.ag (fun q a b => hF2.2 q (by unfold hS; omega))
    have e0 := (hF2.2 0 (by unfold hS; omega)).trans d0
    have e13 := (hF2.2 13 (by unfold hS; omega)).trans d13
    refine r_aload_n 56 dX6_hopsOfNow_55 rfl rfl rfl ?_
    refine r_getf 59 dX6_hopsOfNow_56 rfl f_X6_39.r (by repeat (first | assumption | exact isBd.o (by assumption) | exact isHp.o (by assumption) | exact isGm.o (by assumption) | exact isPd.o (by assumption) | refine gs_eq ?_ | refine gs_ne (by omega) ?_ | exact is_of (by assumption) | refine gs_is ?_)) rfl ?_
    refine r_getf 62 dX6_hopsOfNow_59 rfl f_X6_236 (by repeat (first | assumption | exact isBd.o (by assumption) | exact isHp.o (by assumption) | exact isGm.o (by assumption) | exact isPd.o (by assumption) | refine gs_eq ?_ | refine gs_ne (by omega) ?_ | exact is_of (by assumption) | refine gs_is ?_)) rfl ?_
    refine r_aret dX6_hopsOfNow_62 rfl (by decide) (by decide) ?_
    first
      | (have e : hopsN f mv jp oc = [] := by rw [hopsN, if_neg q35]
         rw [e]
         refine ⟨rfl, (hF.mono (fun q a => ⟨by have := a.1; omega, by have := a.2; omega⟩)).tr (hz.1.mono (fun q a => ⟨by have := a.1; omega, by have := a.2; omega⟩)), ⟨⟨_, _, _, _, c34⟩, ⟨_, hz.2⟩, ?_, ?_, ?_, ?_⟩, hz.2, c34⟩
         · exact s25.ag (fun q a b => (hz.1.2 q (by unfold hS; omega)).trans (hA q (by omega)))
         · exact s28.ag (fun q a b => (hz.1.2 q (by unfold hS; omega)).trans (hA q (by omega)))
         · exact s16.ag (fun q a b => (hz.1.2 q (by unfold hS; omega)).trans (hA q (by omega)))
         · exact s19.ag (fun q a b => (hz.1.2 q (by unfold hS; omega)).trans (hA q (by omega))))
      | (have e : hopsN f mv jp oc = hopsC f mv jp := by rw [hopsN, if_pos q35]
         rw [e]
         have hA2 : ∀ q, (q < 34 ∨ 43 ≤ q) → w2[q]? = w[q]? := fun q a => (hF2.2 q (by unfold hS; omega)).trans ((hz.1.2 q (by unfold hS; omega)).trans (hA q (by omega)))
         refine ⟨rfl, ((hF.mono (fun q a => ⟨by have := a.1; omega, by have := a.2; omega⟩)).tr (hz.1.mono (fun q a => ⟨by have := a.1; omega, by have := a.2; omega⟩))).tr (hF2.mono (fun q a => ⟨by have := a.1; omega, by have := a.2; omega⟩)), ⟨⟨_, _, _, _, e34⟩, ⟨_, h2.2⟩, ?_, ?_, ?_, ?_⟩, h2.2, e34⟩
         · exact s25.ag (fun q a b => hA2 q (by omega))
         · exact s28.ag (fun q a b => hA2 q (by omega))
         · exact s16.ag (fun q a b => hA2 q (by omega))
         · exact s19.ag (fun q a b => hA2 q (by omega)))

