/-! ===== the maker of the class ===== -/
set_option maxRecDepth 100000 in
theorem tX6_init {Γ : CT} {w : PW} {F N : Nat → Int32} (hw : w[0]? = some (oB 6 [.null, .null, .null, .null, .null])) (hl : w.length = 1) (hFN : bgFN false F N) : Cl Γ yX6_init XX6_init 7 42 3399 [.ref 0] w (rN (fun w1 => w1.length = 43 ∧ isTp w1 ∧ isGS w1 1 (F, N, 0, -6, (fun _ => 600), (fun _ => 0), [t3O F 0 (-6)], 600, 0, 0, judO F 0 [t3O F 0 (-6)] 0) ∧ w1[8]? = some (oB 2 [.ref 9, .int 0]) ∧ w1[9]? = some (aG 6 (fun _ => none)) ∧ w1[10]? = some (aG 2 (fun _ => none)) ∧ w1[11]? = some (oB 4 [.ref 12, .int 0]) ∧ w1[12]? = some (aC 60 (fun _ => 0)) ∧ isSc w1)) := by
  refine Cl.of (ls := [some (.ref 0)]) rfl (by decide +kernel) (fun _ => rfl) (Nat.le_of_ble_eq_true rfl) rfl ?_
  refine r_aload_n 1 dX6_init_0 rfl rfl rfl ?_
  refine r_obj 4 dX6_init_1 rfl l_X6_1 w_obj1 w_obj2 (Nat.le_of_ble_eq_true rfl) (by decide) ?_
  refine r_aload_n 5 dX6_init_4 rfl rfl rfl ?_
  refine r_new 8 dX6_init_5 rfl n_X6_7 rfl (by decide) (by decide) ?_
  refine r_hd (1) (by first | assumption | (simp only [List.length_set, List.length_append, List.length_cons, List.length_nil]; omega)) ?_
  refine r_dup 9 dX6_init_8 rfl rfl ?_
  refine r_callIN (ci := 0) (fs := []) 12 dX6_init_9 rfl (tX1_init (g := 1) (ga_n hl) (by rw [List.length_append, hl]; rfl)) l_X6_9 mX1_init rfl rfl (by decide) (Nat.le_of_ble_eq_true rfl) (by decide) (qN fun w1 h1 => ?_)
  have a1 : w1.length = 8 := by rw [h1.1.1, List.length_append, hl]; rfl
  have a0 := h1.1.at (ga_o hw) (by decide)
  have ag := h1.2
  refine r_putF (fs1 := [_, _, _, _, _]) 15 dX6_init_12 rfl f_X6_10 rfl (by repeat (first | assumption | exact isBd.o (by assumption) | exact isHp.o (by assumption) | exact isGm.o (by assumption) | exact isPd.o (by assumption) | exact ga_n (by first | assumption | (simp only [List.length_set, List.length_append, List.length_cons, List.length_nil]; omega)) | exact ga_o (by assumption) | refine gs_eq ?_ | refine gs_ne (by omega) ?_ | exact is_of (by assumption) | refine gs_is ?_)) rfl (by simp only [List.length_cons, List.length_nil]; omega) rfl ?_
  refine r_aload_n 16 dX6_init_15 rfl rfl rfl ?_
  refine r_new 19 dX6_init_16 rfl n_X6_16 rfl (by decide) (by decide) ?_
  refine r_hd (8) (by first | assumption | (simp only [List.length_set, List.length_append, List.length_cons, List.length_nil]; omega)) ?_
  refine r_dup 20 dX6_init_19 rfl rfl ?_
  refine r_callIN (ci := 0) (fs := []) 23 dX6_init_20 rfl (tX2_init (h := 8) (ga_n (by rw [List.length_set]; exact a1)) (by rw [List.length_append, List.length_set, a1]; rfl)) l_X6_18 mX2_init rfl rfl (by decide) (Nat.le_of_ble_eq_true rfl) (by decide) (qN fun w2 h2 => ?_)
  have b1 : w2.length = 10 := by rw [h2.1.1, List.length_append, List.length_set, a1]; rfl
  have b0 := h2.1.at (h := 0) (ga_o (gs_eq (is_of a0))) (by decide)
  have bg := (isGm.ap (isGm.sr (q := 0) (c := oB 6 [.ref 1, .null, .null, .null, .null]) ag (by decide))).gr h2.1 (fun q a b e => by omega)
  have b8 := h2.2.1
  have b9 := h2.2.2
  refine r_putF (fs1 := [_, _, _, _, _]) 26 dX6_init_23 rfl f_X6_19 rfl (by repeat (first | assumption | exact isBd.o (by assumption) | exact isHp.o (by assumption) | exact isGm.o (by assumption) | exact isPd.o (by assumption) | exact ga_n (by first | assumption | (simp only [List.length_set, List.length_append, List.length_cons, List.length_nil]; omega)) | exact ga_o (by assumption) | refine gs_eq ?_ | refine gs_ne (by omega) ?_ | exact is_of (by assumption) | refine gs_is ?_)) rfl (by simp only [List.length_cons, List.length_nil]; omega) rfl ?_
  refine r_aload_n 27 dX6_init_26 rfl rfl rfl ?_
  refine r_iconst (v := 2) 28 dX6_init_27 rfl (by decide) ?_
  refine r_anew 31 2 dX6_init_28 rfl cl_X6_7 (by decide) (by decide) (by decide) (by decide) ?_
  refine r_hd (10) (by first | assumption | (simp only [List.length_set, List.length_append, List.length_cons, List.length_nil]; omega)) ?_
  refine r_putF (fs1 := [_, _, _, _, _]) 34 dX6_init_31 rfl f_X6_23 rfl (ga_o (gs_eq (is_of b0))) rfl (by simp only [List.length_cons, List.length_nil]; omega) rfl ?_
  refine r_aload_n 35 dX6_init_34 rfl rfl rfl ?_
  refine r_new 38 dX6_init_35 rfl n_X6_27 rfl (by decide) (by decide) ?_
  refine r_hd (11) (by first | assumption | (simp only [List.length_set, List.length_append, List.length_cons, List.length_nil]; omega)) ?_
  refine r_dup 39 dX6_init_38 rfl rfl ?_
  refine r_callIN (ci := 0) (fs := []) 42 dX6_init_39 rfl (tX4_init (h := 11) (ga_n (by first | assumption | (simp only [List.length_set, List.length_append, List.length_cons, List.length_nil]; omega))) (by first | assumption | (simp only [List.length_set, List.length_append, List.length_cons, List.length_nil]; omega))) l_X6_29 mX4_init rfl rfl (by decide) (Nat.le_of_ble_eq_true rfl) (by decide) (qN fun w3 h3 => ?_)
  have c1 : w3.length = 13 := by rw [h3.1.1]; simp only [List.length_set, List.length_append, List.length_cons, List.length_nil]; omega
  have c0 := h3.1.at (h := 0) (ga_o (gs_eq (is_of (ga_o (gs_eq (is_of b0)))))) (by decide)
  have cg := (isGm.ap (isGm.sr (isGm.ap (isGm.sr bg (by decide))) (by decide))).gr h3.1 (fun q a b e => by omega)
  have c8 := h3.1.at (h := 8) (ga_o (gs_ne (by decide) (ga_o (gs_ne (by decide) b8)))) (by decide)
  have c9 := h3.1.at (h := 9) (ga_o (gs_ne (by decide) (ga_o (gs_ne (by decide) b9)))) (by decide)
  have c10 := h3.1.at (h := 10) (ga_o (gs_ne (by decide) (ga_n (by first | assumption | (simp only [List.length_set, List.length_append, List.length_cons, List.length_nil]; omega))))) (by decide)
  have c11 := h3.2.1
  have c12 := h3.2.2
  refine r_putF (fs1 := [_, _, _, _, _]) 45 dX6_init_42 rfl f_X6_30 rfl (by repeat (first | assumption | exact isBd.o (by assumption) | exact isHp.o (by assumption) | exact isGm.o (by assumption) | exact isPd.o (by assumption) | exact ga_n (by first | assumption | (simp only [List.length_set, List.length_append, List.length_cons, List.length_nil]; omega)) | exact ga_o (by assumption) | refine gs_eq ?_ | refine gs_ne (by omega) ?_ | exact is_of (by assumption) | refine gs_is ?_)) rfl (by simp only [List.length_cons, List.length_nil]; omega) rfl ?_
  refine r_aload_n 46 dX6_init_45 rfl rfl rfl ?_
  refine r_new 49 dX6_init_46 rfl n_X6_34 rfl (by decide) (by decide) ?_
  refine r_hd (13) (by first | assumption | (simp only [List.length_set, List.length_append, List.length_cons, List.length_nil]; omega)) ?_
  refine r_dup 50 dX6_init_49 rfl rfl ?_
  refine r_new 53 dX6_init_50 rfl n_X6_34 rfl (by decide) (by decide) ?_
  refine r_hd (14) (by first | assumption | (simp only [List.length_set, List.length_append, List.length_cons, List.length_nil]; omega)) ?_
  refine r_dup 54 dX6_init_53 rfl rfl ?_
  refine r_new 57 dX6_init_54 rfl n_X6_34 rfl (by decide) (by decide) ?_
  refine r_hd (15) (by first | assumption | (simp only [List.length_set, List.length_append, List.length_cons, List.length_nil]; omega)) ?_
  refine r_dup 58 dX6_init_57 rfl rfl ?_
  refine r_null 59 dX6_init_58 rfl ?_
  refine r_callI (ci := 0) (fs := []) 62 dX6_init_59 rfl (tX5_initN (y := 15) (L := 16) (ga_n (by first | assumption | (simp only [List.length_set, List.length_append, List.length_cons, List.length_nil]; omega))) (by first | assumption | (simp only [List.length_set, List.length_append, List.length_cons, List.length_nil]; omega))) l_X6_36 mX5_init rfl rfl (by decide) (Nat.le_of_ble_eq_true rfl) (by decide) (qN fun w4 h4 => ?_)
  have d1 : w4.length = 25 := by rw [h4.1.1]; simp only [List.length_set, List.length_append, List.length_cons, List.length_nil]; omega
  have d0 := h4.1.at (h := 0) (ga_o (ga_o (ga_o (gs_eq (is_of c0))))) (by decide)
  have d8 := h4.1.at (h := 8) (ga_o (ga_o (ga_o (gs_ne (by decide) c8)))) (by decide)
  have d9 := h4.1.at (h := 9) (ga_o (ga_o (ga_o (gs_ne (by decide) c9)))) (by decide)
  have d10 := h4.1.at (h := 10) (ga_o (ga_o (ga_o (gs_ne (by decide) c10)))) (by decide)
  have d11 := h4.1.at (h := 11) (ga_o (ga_o (ga_o (gs_ne (by decide) c11)))) (by decide)
  have d12 := h4.1.at (h := 12) (ga_o (ga_o (ga_o (gs_ne (by decide) c12)))) (by decide)
  have dg := (isGm.ap (isGm.ap (isGm.ap (isGm.sr cg (by decide))))).gr h4.1 (fun q a b e => by omega)
  have d13 := h4.1.at (h := 13) (ga_o (ga_o (ga_n (by first | assumption | (simp only [List.length_set, List.length_append, List.length_cons, List.length_nil]; omega))))) (by decide)
  have d14 := h4.1.at (h := 14) (ga_o (ga_n (by first | assumption | (simp only [List.length_set, List.length_append, List.length_cons, List.length_nil]; omega)))) (by decide)
  have d15 := h4.2.1
  have db := h4.2.2.1
  have dh := h4.2.2.2
  refine r_callI (ci := 0) (fs := []) 65 dX6_init_62 rfl (tX5_initR (y := 14) (L := 25) d14 d1) l_X6_36 mX5_init rfl rfl (by decide) (Nat.le_of_ble_eq_true rfl) (by decide) (qN fun w5 h5 => ?_)
  have e1 : w5.length = 34 := by rw [h5.1.1]; omega
  have e0 := h5.1.at d0 (by decide)
  have e8 := h5.1.at d8 (by decide)
  have e9 := h5.1.at d9 (by decide)
  have e10 := h5.1.at d10 (by decide)
  have e11 := h5.1.at d11 (by decide)
  have e12 := h5.1.at d12 (by decide)
  have e13 := h5.1.at d13 (by decide)
  have e15 := h5.1.at d15 (by decide)
  have eg := dg.gr h5.1 (fun q a b e => by omega)
  have e14 := h5.2.1
  have eb := db.gr h5.1 (fun q a b e => by omega)
  have eh := dh.gr h5.1 (fun q a b e => by omega)
  have eb2 := h5.2.2.1
  have eh2 := h5.2.2.2
  refine r_callI (ci := 0) (fs := []) 68 dX6_init_65 rfl (tX5_initR (y := 13) (L := 34) e13 e1) l_X6_36 mX5_init rfl rfl (by decide) (Nat.le_of_ble_eq_true rfl) (by decide) (qN fun w6 h6 => ?_)
  have f1 : w6.length = 43 := by rw [h6.1.1]; omega
  have f0 := h6.1.at e0 (by decide)
  have f8 := h6.1.at e8 (by decide)
  have f9 := h6.1.at e9 (by decide)
  have f10 := h6.1.at e10 (by decide)
  have f11 := h6.1.at e11 (by decide)
  have f12 := h6.1.at e12 (by decide)
  have f14 := h6.1.at e14 (by decide)
  have f15 := h6.1.at e15 (by decide)
  have fg := eg.gr h6.1 (fun q a b e => by omega)
  have f13 := h6.2.1
  have fb := eb.gr h6.1 (fun q a b e => by omega)
  have fh := eh.gr h6.1 (fun q a b e => by omega)
  have fb2 := eb2.gr h6.1 (fun q a b e => by omega)
  have fh2 := eh2.gr h6.1 (fun q a b e => by omega)
  have fb3 := h6.2.2.1
  have fh3 := h6.2.2.2
  refine r_putF (fs1 := [_, _, _, _, _]) 71 dX6_init_68 rfl f_X6_39 rfl (by repeat (first | assumption | exact isBd.o (by assumption) | exact isHp.o (by assumption) | exact isGm.o (by assumption) | exact isPd.o (by assumption) | exact ga_n (by first | assumption | (simp only [List.length_set, List.length_append, List.length_cons, List.length_nil]; omega)) | exact ga_o (by assumption) | refine gs_eq ?_ | refine gs_ne (by omega) ?_ | exact is_of (by assumption) | refine gs_is ?_)) rfl (by simp only [List.length_cons, List.length_nil]; omega) rfl ?_
  have hx := fg
  refine r_aload_n 72 dX6_init_71 rfl rfl rfl ?_
  refine r_getf 75 dX6_init_72 rfl f_X6_10.r (by repeat (first | assumption | exact isBd.o (by assumption) | exact isHp.o (by assumption) | exact isGm.o (by assumption) | exact isPd.o (by assumption) | exact ga_n (by first | assumption | (simp only [List.length_set, List.length_append, List.length_cons, List.length_nil]; omega)) | exact ga_o (by assumption) | refine gs_eq ?_ | refine gs_ne (by omega) ?_ | exact is_of (by assumption) | refine gs_is ?_)) rfl ?_
  refine r_iconst (v := 0) 76 dX6_init_75 rfl (by decide) ?_
  refine r_callV0 79 dX6_init_76 rfl (tX1_start (e := false) (isGm.sr (q := 0) fg (by decide)) hFN) l_X6_43 mX1_start rfl (by repeat (first | assumption | exact isBd.o (by assumption) | exact isHp.o (by assumption) | exact isGm.o (by assumption) | exact isPd.o (by assumption) | exact ga_n (by first | assumption | (simp only [List.length_set, List.length_append, List.length_cons, List.length_nil]; omega)) | exact ga_o (by assumption) | refine gs_eq ?_ | refine gs_ne (by omega) ?_ | exact is_of (by assumption) | refine gs_is ?_)) rfl (by decide) (Nat.le_of_ble_eq_true rfl) (by decide) (qN fun w7 h7 => ?_)
  skip
  refine r_vret dX6_init_79 rfl (by decide) (by decide) ?_
  have hA : ∀ q, (q < 1 ∨ 8 ≤ q) → q ≠ 0 → w7[q]? = w6[q]? := fun q a b => (h7.1.2 q (by unfold gS; omega)).trans (List.getElem?_set_ne (by omega))
  have g0 := (h7.1.2 0 (by unfold gS; omega)).trans (gs_eq (is_of f0))
  refine ⟨rfl, by rw [h7.1.1, List.length_set, f1], ⟨g0, (hA _ (by decide) (by decide)).trans f13, (hA _ (by decide) (by decide)).trans f14, (hA _ (by decide) (by decide)).trans f15⟩, h7.2, (hA _ (by decide) (by decide)).trans f8, (hA _ (by decide) (by decide)).trans f9, (hA _ (by decide) (by decide)).trans f10, (hA _ (by decide) (by decide)).trans f11, (hA _ (by decide) (by decide)).trans f12, ⟨_, _, _, _, fb3.ag (fun q a b => hA q (by omega) (by omega))⟩, ⟨_, fh3.ag (fun q a b => hA q (by omega) (by omega))⟩, ⟨_, _, _, _, fb2.ag (fun q a b => hA q (by omega) (by omega))⟩, ⟨_, fh2.ag (fun q a b => hA q (by omega) (by omega))⟩, ⟨_, _, _, _, fb.ag (fun q a b => hA q (by omega) (by omega))⟩, ⟨_, fh.ag (fun q a b => hA q (by omega) (by omega))⟩⟩

