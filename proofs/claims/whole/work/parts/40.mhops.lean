/-! ===== the model: all jumps, all hops ===== -/
def jW (f : Nat → Int32) (side cj : Int32) (s way : Nat) : List HP := if sdO (f s) = side ∧ (cj = -6 ∨ cj = nI s) then jAt f s way else []
theorem jSq_W {f : Nat → Int32} {side cj : Int32} {s : Nat} : jSq f side cj s = (List.range 4).flatMap (jW f side cj s) := by
  unfold jSq
  split
  · next h => congr 1; funext way; unfold jW; rw [if_pos h]
  · next h =>
    have e : jW f side cj s = fun _ => [] := by funext way; unfold jW; rw [if_neg h]
    rw [e]
    rfl
theorem lsA.nil {B sd ch hm fr wy gs gl tk : Nat → Int32} {L : Nat} : lsA (B, sd, ch, upd hm L 0, fr, wy, gs, gl, tk) L [] ∧ smL (B, sd, ch, hm, fr, wy, gs, gl, tk) (B, sd, ch, upd hm L 0, fr, wy, gs, gl, tk) L :=
  ⟨⟨Nat.zero_le _, pk_us, fun i q h => by simp at h⟩, rfl, rfl, rfl, fun j hj => pk_un (by omega), fun j hj => ⟨rfl, rfl, rfl, rfl, rfl⟩⟩
set_option maxRecDepth 100000 in
theorem tX7_listAllJumps {Γ : CT} {w : PW} {pm ty rm sp wr : Int32} {W : MW} {L : Nat} {f : Nat → Int32} {side cj : Int32} (ho : w[43]? = some (oM pm ty rm sp wr)) (hW : isW w W) (hb : bdA W L f) (hf : okF f) (hL : L < 4) (hsd : side = 0 ∨ side = 1) (h192 : (allJ f side cj).length ≤ 192) : Cl Γ yX7_listAllJumps XX7_listAllJumps 3 0 0 [.ref 43, .int (nI L), .int side, .int cj] w (rN (toLs w W L (allJ f side cj))) := by
  obtain ⟨c49, c50, c51, c52, c53, c54, c55, c56, c57⟩ := id hW
  have inner : ∀ (s : Nat) (pre : List HP), s < 48 → (pre ++ (List.range 4).flatMap (jW f side cj s)).length ≤ 192 → (∀ (u : PW) (x5 x6 : Option Value), toLs w W L (pre ++ (List.range 4).flatMap (jW f side cj s)) u → nl x5 = true → nl x6 = true → Rn Γ XX7_listAllJumps (rmO 3 0 0) none (FinM (rN (toLs w W L (allJ f side cj))) 0 0) 0 0 u 95 [some (.ref 43), some (.int (nI L)), some (.int side), some (.int cj), some (.int (nI s)), x5, x6] []) → ∀ (m i : Nat) (u : PW) (x6 : Option Value), i + m = 4 → nl x6 = true → toLs w W L (pre ++ (List.range i).flatMap (jW f side cj s)) u → Rn Γ XX7_listAllJumps (rmO 3 0 0) none (FinM (rN (toLs w W L (allJ f side cj))) 0 0) 0 0 u 20 [some (.ref 43), some (.int (nI L)), some (.int side), some (.int cj), some (.int (nI s)), some (.int (nI i)), x6] [] := by
    intro s pre hs hlen kk m
    induction m with
    | zero =>
      intro i u x6 hi e6 hu
      have h4 : i = 4 := by omega
      subst h4
      refine r_iload 22 dX7_listAllJumps_20 rfl rfl ?_
      refine r_iconst (v := nI 4) 23 dX7_listAllJumps_22 rfl (by decide) ?_
      refine r_icmp_ge 95 26 dX7_listAllJumps_23 (by decide) rfl (fun q23 => ?_) (fun q23 => absurd q23 (fun z => z (nI_le (by omega) (by omega))))
      exact kk u _ _ hu rfl e6
    | succ m ih =>
      intro i u x6 hi e6 hu
      obtain ⟨hF, V, hV, hVl, hVs⟩ := id hu
      have oV := (hF.2 43 (by unfold wS; omega)).trans ho
      have hbV := hb.sm hVs.1
      have hlen2 : (pre ++ (List.range i).flatMap (jW f side cj s)).length + (jW f side cj s i).length ≤ 192 := by
        have h9 := fm_len (g := jW f side cj s) (i := i + 1) (n := 4) (by omega)
        rw [fm_s, List.length_append] at h9
        rw [List.length_append] at hlen ⊢
        omega
      refine r_iload 22 dX7_listAllJumps_20 rfl rfl ?_
      refine r_iconst (v := nI 4) 23 dX7_listAllJumps_22 rfl (by decide) ?_
      refine r_icmp_ge 95 26 dX7_listAllJumps_23 (by decide) rfl (fun q23 => absurd q23 (nI_ge (by omega) (by omega))) (fun q23 => ?_)
      refine r_aload_n 27 dX7_listAllJumps_26 rfl rfl rfl ?_
      refine r_iload_n 28 dX7_listAllJumps_27 rfl rfl ?_
      refine r_iload 30 dX7_listAllJumps_28 rfl rfl ?_
      refine r_callV0 33 dX7_listAllJumps_30 rfl (tX7_pieceAt oV hV hbV hL hs) l_X7_79 mX7_pieceAt rfl (by repeat (first | assumption | refine gs_eq ?_ | refine gs_ne (by omega) ?_ | exact is_of (by assumption) | refine gs_is ?_)) rfl (by decide) (Nat.le_of_ble_eq_true rfl) (by decide) (qI ?_)
      refine r_callS0 36 dX7_listAllJumps_33 rfl (tX7_sd (hf _ hs)) l_X7_87 mX7_sideOf rfl (by decide) (Nat.le_of_ble_eq_true rfl) (by decide) (qI ?_)
      refine r_iload_n 37 dX7_listAllJumps_36 rfl rfl ?_
      refine r_icmp_ne 56 40 dX7_listAllJumps_37 (by decide) rfl (fun q37 => ?_) (fun q37 => ?_)
      · refine r_iconst (v := 0) 57 dX7_listAllJumps_56 rfl (by decide) ?_
        refine r_istore (ls1 := [_, _, _, _, _, _, _]) 59 dX7_listAllJumps_57 rfl (by decide) rfl rfl ?_
        refine r_iload 61 dX7_listAllJumps_59 rfl rfl ?_
        refine r_if_eq 89 64 dX7_listAllJumps_61 (by decide) rfl (fun q61 => ?_) (fun q61 => absurd q61 (by decide))
        refine r_iinc (ls1 := [_, _, _, _, _, _, _]) 92 dX7_listAllJumps_89 rfl (by decide) rfl rfl (nI_1 i) rfl ?_
        refine r_goto 20 dX7_listAllJumps_92 (by decide) ?_
        first
        | (have e9 : jW f side cj s i = jAt f s i := by (unfold jW; rw [if_pos ⟨q37, by first | exact Or.inl q43 | exact Or.inr q49⟩])
           refine ih (i + 1) u1 _ (by omega) rfl ?_
           rw [fm_s, ← List.append_assoc, e9]
           exact toLs.tr hF hVs hu1)
        | (have e9 : jW f side cj s i = [] := by (unfold jW; rw [if_pos ⟨q37, by first | exact Or.inl q43 | exact Or.inr q49⟩]; exact jAt_may (eq_f q77))
           refine ih (i + 1) u _ (by omega) rfl ?_
           rw [fm_s, e9, List.append_nil]
           exact hu)
        | (have e9 : jW f side cj s i = [] := by (unfold jW; rw [if_neg]; first | exact (fun z => q37 z.1) | exact (fun z => z.2.elim q43 q49))
           refine ih (i + 1) u _ (by omega) rfl ?_
           rw [fm_s, e9, List.append_nil]
           exact hu)
      · refine r_iload_n 41 dX7_listAllJumps_40 rfl rfl ?_
        refine r_bipush (v := (-6)) 43 dX7_listAllJumps_41 rfl (by decide) ?_
        refine r_icmp_eq 52 46 dX7_listAllJumps_43 (by decide) rfl (fun q43 => ?_) (fun q43 => ?_)
        · refine r_iconst (v := 1) 53 dX7_listAllJumps_52 rfl (by decide) ?_
          refine r_goto 57 dX7_listAllJumps_53 (by decide) ?_
          refine r_istore (ls1 := [_, _, _, _, _, _, _]) 59 dX7_listAllJumps_57 rfl (by decide) rfl rfl ?_
          refine r_iload 61 dX7_listAllJumps_59 rfl rfl ?_
          refine r_if_eq 89 64 dX7_listAllJumps_61 (by decide) rfl (fun q61 => absurd q61 (by decide)) (fun q61 => ?_)
          refine r_aload_n 65 dX7_listAllJumps_64 rfl rfl rfl ?_
          refine r_aload_n 66 dX7_listAllJumps_65 rfl rfl rfl ?_
          refine r_iload_n 67 dX7_listAllJumps_66 rfl rfl ?_
          refine r_iload 69 dX7_listAllJumps_67 rfl rfl ?_
          refine r_callV0 72 dX7_listAllJumps_69 rfl (tX7_pieceAt oV hV hbV hL hs) l_X7_79 mX7_pieceAt rfl (by repeat (first | assumption | refine gs_eq ?_ | refine gs_ne (by omega) ?_ | exact is_of (by assumption) | refine gs_is ?_)) rfl (by decide) (Nat.le_of_ble_eq_true rfl) (by decide) (qI ?_)
          refine r_iload 74 dX7_listAllJumps_72 rfl rfl ?_
          refine r_callV0 77 dX7_listAllJumps_74 rfl (tX7_goesWay oV (hf _ hs) (okP_sd (by rw [q37]; exact hsd)) (by omega)) l_X7_101 mX7_goesWay rfl (by repeat (first | assumption | refine gs_eq ?_ | refine gs_ne (by omega) ?_ | exact is_of (by assumption) | refine gs_is ?_)) rfl (by decide) (Nat.le_of_ble_eq_true rfl) (by decide) (qI ?_)
          refine r_if_eq 89 80 dX7_listAllJumps_77 (by decide) rfl (fun q77 => ?_) (fun q77 => ?_)
          · refine r_iinc (ls1 := [_, _, _, _, _, _, _]) 92 dX7_listAllJumps_89 rfl (by decide) rfl rfl (nI_1 i) rfl ?_
            refine r_goto 20 dX7_listAllJumps_92 (by decide) ?_
            first
            | (have e9 : jW f side cj s i = jAt f s i := by (unfold jW; rw [if_pos ⟨q37, by first | exact Or.inl q43 | exact Or.inr q49⟩])
               refine ih (i + 1) u1 _ (by omega) rfl ?_
               rw [fm_s, ← List.append_assoc, e9]
               exact toLs.tr hF hVs hu1)
            | (have e9 : jW f side cj s i = [] := by (unfold jW; rw [if_pos ⟨q37, by first | exact Or.inl q43 | exact Or.inr q49⟩]; exact jAt_may (eq_f q77))
               refine ih (i + 1) u _ (by omega) rfl ?_
               rw [fm_s, e9, List.append_nil]
               exact hu)
            | (have e9 : jW f side cj s i = [] := by (unfold jW; rw [if_neg]; first | exact (fun z => q37 z.1) | exact (fun z => z.2.elim q43 q49))
               refine ih (i + 1) u _ (by omega) rfl ?_
               rw [fm_s, e9, List.append_nil]
               exact hu)
          · refine r_aload_n 81 dX7_listAllJumps_80 rfl rfl rfl ?_
            refine r_iload_n 82 dX7_listAllJumps_81 rfl rfl ?_
            refine r_iload 84 dX7_listAllJumps_82 rfl rfl ?_
            refine r_iload 86 dX7_listAllJumps_84 rfl rfl ?_
            refine r_callV0 89 dX7_listAllJumps_86 rfl (tX7_listJumps oV hV hbV hf hVl hL hs (by omega) (by rw [q37]; exact hsd) (ne_f q77) (by rw [List.length_append]; have e : jW f side cj s i = jAt f s i := (by unfold jW; rw [if_pos ⟨q37, by first | exact Or.inl q43 | exact Or.inr q49⟩]); rw [e] at hlen2; exact hlen2)) l_X7_104 mX7_listJumps rfl (by repeat (first | assumption | refine gs_eq ?_ | refine gs_ne (by omega) ?_ | exact is_of (by assumption) | refine gs_is ?_)) rfl (by decide) (Nat.le_of_ble_eq_true rfl) (by decide) (qN fun u1 hu1 => ?_)
            refine r_iinc (ls1 := [_, _, _, _, _, _, _]) 92 dX7_listAllJumps_89 rfl (by decide) rfl rfl (nI_1 i) rfl ?_
            refine r_goto 20 dX7_listAllJumps_92 (by decide) ?_
            first
            | (have e9 : jW f side cj s i = jAt f s i := by (unfold jW; rw [if_pos ⟨q37, by first | exact Or.inl q43 | exact Or.inr q49⟩])
               refine ih (i + 1) u1 _ (by omega) rfl ?_
               rw [fm_s, ← List.append_assoc, e9]
               exact toLs.tr hF hVs hu1)
            | (have e9 : jW f side cj s i = [] := by (unfold jW; rw [if_pos ⟨q37, by first | exact Or.inl q43 | exact Or.inr q49⟩]; exact jAt_may (eq_f q77))
               refine ih (i + 1) u _ (by omega) rfl ?_
               rw [fm_s, e9, List.append_nil]
               exact hu)
            | (have e9 : jW f side cj s i = [] := by (unfold jW; rw [if_neg]; first | exact (fun z => q37 z.1) | exact (fun z => z.2.elim q43 q49))
               refine ih (i + 1) u _ (by omega) rfl ?_
               rw [fm_s, e9, List.append_nil]
               exact hu)
        · refine r_iload_n 47 dX7_listAllJumps_46 rfl rfl ?_
          refine r_iload 49 dX7_listAllJumps_47 rfl rfl ?_
          refine r_icmp_ne 56 52 dX7_listAllJumps_49 (by decide) rfl (fun q49 => ?_) (fun q49 => ?_)
          · refine r_iconst (v := 0) 57 dX7_listAllJumps_56 rfl (by decide) ?_
            refine r_istore (ls1 := [_, _, _, _, _, _, _]) 59 dX7_listAllJumps_57 rfl (by decide) rfl rfl ?_
            refine r_iload 61 dX7_listAllJumps_59 rfl rfl ?_
            refine r_if_eq 89 64 dX7_listAllJumps_61 (by decide) rfl (fun q61 => ?_) (fun q61 => absurd q61 (by decide))
            refine r_iinc (ls1 := [_, _, _, _, _, _, _]) 92 dX7_listAllJumps_89 rfl (by decide) rfl rfl (nI_1 i) rfl ?_
            refine r_goto 20 dX7_listAllJumps_92 (by decide) ?_
            first
            | (have e9 : jW f side cj s i = jAt f s i := by (unfold jW; rw [if_pos ⟨q37, by first | exact Or.inl q43 | exact Or.inr q49⟩])
               refine ih (i + 1) u1 _ (by omega) rfl ?_
               rw [fm_s, ← List.append_assoc, e9]
               exact toLs.tr hF hVs hu1)
            | (have e9 : jW f side cj s i = [] := by (unfold jW; rw [if_pos ⟨q37, by first | exact Or.inl q43 | exact Or.inr q49⟩]; exact jAt_may (eq_f q77))
               refine ih (i + 1) u _ (by omega) rfl ?_
               rw [fm_s, e9, List.append_nil]
               exact hu)
            | (have e9 : jW f side cj s i = [] := by (unfold jW; rw [if_neg]; first | exact (fun z => q37 z.1) | exact (fun z => z.2.elim q43 q49))
               refine ih (i + 1) u _ (by omega) rfl ?_
               rw [fm_s, e9, List.append_nil]
               exact hu)
          · refine r_iconst (v := 1) 53 dX7_listAllJumps_52 rfl (by decide) ?_
            refine r_goto 57 dX7_listAllJumps_53 (by decide) ?_
            refine r_istore (ls1 := [_, _, _, _, _, _, _]) 59 dX7_listAllJumps_57 rfl (by decide) rfl rfl ?_
            refine r_iload 61 dX7_listAllJumps_59 rfl rfl ?_
            refine r_if_eq 89 64 dX7_listAllJumps_61 (by decide) rfl (fun q61 => absurd q61 (by decide)) (fun q61 => ?_)
            refine r_aload_n 65 dX7_listAllJumps_64 rfl rfl rfl ?_
            refine r_aload_n 66 dX7_listAllJumps_65 rfl rfl rfl ?_
            refine r_iload_n 67 dX7_listAllJumps_66 rfl rfl ?_
            refine r_iload 69 dX7_listAllJumps_67 rfl rfl ?_
            refine r_callV0 72 dX7_listAllJumps_69 rfl (tX7_pieceAt oV hV hbV hL hs) l_X7_79 mX7_pieceAt rfl (by repeat (first | assumption | refine gs_eq ?_ | refine gs_ne (by omega) ?_ | exact is_of (by assumption) | refine gs_is ?_)) rfl (by decide) (Nat.le_of_ble_eq_true rfl) (by decide) (qI ?_)
            refine r_iload 74 dX7_listAllJumps_72 rfl rfl ?_
            refine r_callV0 77 dX7_listAllJumps_74 rfl (tX7_goesWay oV (hf _ hs) (okP_sd (by rw [q37]; exact hsd)) (by omega)) l_X7_101 mX7_goesWay rfl (by repeat (first | assumption | refine gs_eq ?_ | refine gs_ne (by omega) ?_ | exact is_of (by assumption) | refine gs_is ?_)) rfl (by decide) (Nat.le_of_ble_eq_true rfl) (by decide) (qI ?_)
            refine r_if_eq 89 80 dX7_listAllJumps_77 (by decide) rfl (fun q77 => ?_) (fun q77 => ?_)
            · refine r_iinc (ls1 := [_, _, _, _, _, _, _]) 92 dX7_listAllJumps_89 rfl (by decide) rfl rfl (nI_1 i) rfl ?_
              refine r_goto 20 dX7_listAllJumps_92 (by decide) ?_
              first
              | (have e9 : jW f side cj s i = jAt f s i := by (unfold jW; rw [if_pos ⟨q37, by first | exact Or.inl q43 | exact Or.inr q49⟩])
                 refine ih (i + 1) u1 _ (by omega) rfl ?_
                 rw [fm_s, ← List.append_assoc, e9]
                 exact toLs.tr hF hVs hu1)
              | (have e9 : jW f side cj s i = [] := by (unfold jW; rw [if_pos ⟨q37, by first | exact Or.inl q43 | exact Or.inr q49⟩]; exact jAt_may (eq_f q77))
                 refine ih (i + 1) u _ (by omega) rfl ?_
                 rw [fm_s, e9, List.append_nil]
                 exact hu)
              | (have e9 : jW f side cj s i = [] := by (unfold jW; rw [if_neg]; first | exact (fun z => q37 z.1) | exact (fun z => z.2.elim q43 q49))
                 refine ih (i + 1) u _ (by omega) rfl ?_
                 rw [fm_s, e9, List.append_nil]
                 exact hu)
            · refine r_aload_n 81 dX7_listAllJumps_80 rfl rfl rfl ?_
              refine r_iload_n 82 dX7_listAllJumps_81 rfl rfl ?_
              refine r_iload 84 dX7_listAllJumps_82 rfl rfl ?_
              refine r_iload 86 dX7_listAllJumps_84 rfl rfl ?_
              refine r_callV0 89 dX7_listAllJumps_86 rfl (tX7_listJumps oV hV hbV hf hVl hL hs (by omega) (by rw [q37]; exact hsd) (ne_f q77) (by rw [List.length_append]; have e : jW f side cj s i = jAt f s i := (by unfold jW; rw [if_pos ⟨q37, by first | exact Or.inl q43 | exact Or.inr q49⟩]); rw [e] at hlen2; exact hlen2)) l_X7_104 mX7_listJumps rfl (by repeat (first | assumption | refine gs_eq ?_ | refine gs_ne (by omega) ?_ | exact is_of (by assumption) | refine gs_is ?_)) rfl (by decide) (Nat.le_of_ble_eq_true rfl) (by decide) (qN fun u1 hu1 => ?_)
              refine r_iinc (ls1 := [_, _, _, _, _, _, _]) 92 dX7_listAllJumps_89 rfl (by decide) rfl rfl (nI_1 i) rfl ?_
              refine r_goto 20 dX7_listAllJumps_92 (by decide) ?_
              first
              | (have e9 : jW f side cj s i = jAt f s i := by (unfold jW; rw [if_pos ⟨q37, by first | exact Or.inl q43 | exact Or.inr q49⟩])
                 refine ih (i + 1) u1 _ (by omega) rfl ?_
                 rw [fm_s, ← List.append_assoc, e9]
                 exact toLs.tr hF hVs hu1)
              | (have e9 : jW f side cj s i = [] := by (unfold jW; rw [if_pos ⟨q37, by first | exact Or.inl q43 | exact Or.inr q49⟩]; exact jAt_may (eq_f q77))
                 refine ih (i + 1) u _ (by omega) rfl ?_
                 rw [fm_s, e9, List.append_nil]
                 exact hu)
              | (have e9 : jW f side cj s i = [] := by (unfold jW; rw [if_neg]; first | exact (fun z => q37 z.1) | exact (fun z => z.2.elim q43 q49))
                 refine ih (i + 1) u _ (by omega) rfl ?_
                 rw [fm_s, e9, List.append_nil]
                 exact hu)
  have outer : ∀ (m i : Nat) (u : PW) (x5 x6 : Option Value), i + m = 48 → (toLs w W L ((List.range i).flatMap (jSq f side cj)) u) → (nl x5 = true) → (nl x6 = true) → Rn Γ XX7_listAllJumps (rmO 3 0 0) none (FinM (rN (toLs w W L (allJ f side cj))) 0 0) 0 0 u 10 [some (.ref 43), some (.int (nI L)), some (.int side), some (.int cj), some (.int (nI i)), x5, x6] [] := by
    intro m
    induction m with
    | zero =>
      intro i u x5 x6 hi hu e5 e6
      have h4 : i = 48 := by omega
      subst h4
      refine r_iload 12 dX7_listAllJumps_10 rfl rfl ?_
      refine r_bipush (v := nI 48) 14 dX7_listAllJumps_12 rfl (by decide) ?_
      refine r_icmp_ge 101 17 dX7_listAllJumps_14 (by decide) rfl (fun q14 => ?_) (fun q14 => absurd q14 (fun z => z (nI_le (by omega) (by omega))))
      refine r_vret dX7_listAllJumps_101 rfl (by decide) (by decide) ?_
      exact ⟨rfl, hu⟩
    | succ m ih =>
      intro i u x5 x6 hi hu e5 e6
      have hlen : ((List.range i).flatMap (jSq f side cj) ++ jSq f side cj i).length ≤ 192 := by
        rw [← fm_s]
        exact Nat.le_trans (fm_len (by omega)) h192
      rw [jSq_W] at hlen
      refine r_iload 12 dX7_listAllJumps_10 rfl rfl ?_
      refine r_bipush (v := nI 48) 14 dX7_listAllJumps_12 rfl (by decide) ?_
      refine r_icmp_ge 101 17 dX7_listAllJumps_14 (by decide) rfl (fun q14 => absurd q14 (nI_ge (by omega) (by omega))) (fun q14 => ?_)
      refine r_iconst (v := nI 0) 18 dX7_listAllJumps_17 rfl (by decide) ?_
      refine r_istore (ls1 := [_, _, _, _, _, _, _]) 20 dX7_listAllJumps_18 rfl (by decide) rfl rfl ?_
      refine inner i _ (by omega) hlen (fun u1 x5 x6 hu1 e5 e6 => ?_) 4 0 u _ (by omega) e6 (by rw [show (List.range 0).flatMap (jW f side cj i) = [] from rfl, List.append_nil]; exact hu)
      refine r_iinc (ls1 := [_, _, _, _, _, _, _]) 98 dX7_listAllJumps_95 rfl (by decide) rfl rfl (nI_1 i) rfl ?_
      refine r_goto 10 dX7_listAllJumps_98 (by decide) ?_
      exact ih (i + 1) u1 _ _ (by omega) (by rw [fm_s, jSq_W]; exact hu1) e5 e6
  refine Cl.of (ls := [some (.ref 43), some (.int (nI L)), some (.int side), some (.int cj), none, none, none]) rfl (by decide +kernel) (fun h => by cases h) (Nat.le_of_ble_eq_true rfl) rfl ?_
  refine r_aload_n 1 dX7_listAllJumps_0 rfl rfl rfl ?_
  refine r_getf 4 dX7_listAllJumps_1 rfl f_X7_36.r (by repeat (first | assumption | refine gs_eq ?_ | refine gs_ne (by omega) ?_ | exact is_of (by assumption) | refine gs_is ?_)) rfl ?_
  refine r_iload_n 5 dX7_listAllJumps_4 rfl rfl ?_
  refine r_iconst (v := 0) 6 dX7_listAllJumps_5 rfl (by decide) ?_
  refine r_iast 7 dX7_listAllJumps_6 rfl (L) (by repeat (first | assumption | refine gs_eq ?_ | refine gs_ne (by omega) ?_ | exact is_of (by assumption) | refine gs_is ?_)) rfl hL (by decide) ?_
  refine r_iconst (v := nI 0) 8 dX7_listAllJumps_7 rfl (by decide) ?_
  refine r_istore (ls1 := [_, _, _, _, _, _, _]) 10 dX7_listAllJumps_8 rfl (by decide) rfl rfl ?_
  exact outer 48 0 _ _ _ (by omega) ⟨Fr.st (by unfold wS; decide), (W.1, W.2.1, W.2.2.1, upd W.2.2.2.1 L 0, W.2.2.2.2.1, W.2.2.2.2.2.1, W.2.2.2.2.2.2.1, W.2.2.2.2.2.2.2.1, W.2.2.2.2.2.2.2.2), ⟨(by repeat (first | assumption | refine gs_eq ?_ | refine gs_ne (by omega) ?_ | exact is_of (by assumption) | refine gs_is ?_)), (by repeat (first | assumption | refine gs_eq ?_ | refine gs_ne (by omega) ?_ | exact is_of (by assumption) | refine gs_is ?_)), (by repeat (first | assumption | refine gs_eq ?_ | refine gs_ne (by omega) ?_ | exact is_of (by assumption) | refine gs_is ?_)), (by repeat (first | assumption | refine gs_eq ?_ | refine gs_ne (by omega) ?_ | exact is_of (by assumption) | refine gs_is ?_)), (by repeat (first | assumption | refine gs_eq ?_ | refine gs_ne (by omega) ?_ | exact is_of (by assumption) | refine gs_is ?_)), (by repeat (first | assumption | refine gs_eq ?_ | refine gs_ne (by omega) ?_ | exact is_of (by assumption) | refine gs_is ?_)), (by repeat (first | assumption | refine gs_eq ?_ | refine gs_ne (by omega) ?_ | exact is_of (by assumption) | refine gs_is ?_)), (by repeat (first | assumption | refine gs_eq ?_ | refine gs_ne (by omega) ?_ | exact is_of (by assumption) | refine gs_is ?_)), (by repeat (first | assumption | refine gs_eq ?_ | refine gs_ne (by omega) ?_ | exact is_of (by assumption) | refine gs_is ?_))⟩, lsA.nil.1, lsA.nil.2⟩ rfl rfl

theorem fm_div {α : Type} {g : Nat → Nat → List α} : ∀ n : Nat, (List.range n).flatMap (fun s => (List.range 4).flatMap (g s)) = (List.range (4 * n)).flatMap (fun k => g (k / 4) (k % 4))
  | 0 => rfl
  | n + 1 => by
    rw [fm_s, fm_div n, show 4 * (n + 1) = 4 * n + 1 + 1 + 1 + 1 by omega, fm_s (i := 4 * n + 1 + 1 + 1), fm_s (i := 4 * n + 1 + 1), fm_s (i := 4 * n + 1), fm_s (i := 4 * n)]
    rw [show (4 * n) / 4 = n by omega, show (4 * n) % 4 = 0 by omega, show (4 * n + 1) / 4 = n by omega, show (4 * n + 1) % 4 = 1 by omega, show (4 * n + 1 + 1) / 4 = n by omega, show (4 * n + 1 + 1) % 4 = 2 by omega, show (4 * n + 1 + 1 + 1) / 4 = n by omega, show (4 * n + 1 + 1 + 1) % 4 = 3 by omega]
    rw [show (List.range 4).flatMap (g n) = g n 0 ++ (g n 1 ++ (g n 2 ++ (g n 3 ++ []))) from rfl]
    simp only [List.append_assoc, List.append_nil]
def mK (f : Nat → Int32) (mv : Int32) (k : Nat) : List HP := if sdO (f (k / 4)) = mv then mAt f (k / 4) (k % 4) else []
theorem allM_K {f : Nat → Int32} {mv : Int32} : allM f mv = (List.range 192).flatMap (mK f mv) := by
  unfold allM
  have e : mSq f mv = fun s => (List.range 4).flatMap (fun way => if sdO (f s) = mv then mAt f s way else []) := by
    funext s
    unfold mSq
    split
    · rfl
    · rfl
  rw [e]
  exact fm_div 48
theorem allJ_tk {f : Nat → Int32} {side cj : Int32} {q : HP} (h : q ∈ allJ f side cj) : ∃ t, t < 48 ∧ q.2.2.2.2 = nI t ∧ f q.2.1 = -6 ∧ (side = 0 ∨ side = 1 → sdO (f t) = 1 - side) := by
  obtain ⟨s, hs, hq⟩ := fm_mem h
  obtain ⟨h1, -, way, hw, hq⟩ := jSq_mem hq
  unfold jAt at hq
  split at hq
  · next h0 =>
    obtain ⟨j, h2, h3, h4, h5⟩ := ld_mem _ _ hq
    obtain ⟨p1, p2, p3, p4, p5⟩ := prey_pos h0
    subst h4
    refine ⟨nk s way (prey f s way), nk_lt hs, ?_, h5 j h2 (Nat.le_refl _), fun _ => by rw [← h1]; exact p3⟩
    show tkO s way (prey f s way) = _
    unfold tkO
    rw [if_pos h0]
  · simp at hq
theorem allM_tk {f : Nat → Int32} {side : Int32} {q : HP} (h : q ∈ allM f side) : q.2.2.2.2 = -6 ∧ f q.2.1 = -6 := by
  obtain ⟨s, hs, hq⟩ := fm_mem h
  obtain ⟨h1, way, hw, hq⟩ := mSq_mem hq
  unfold mAt at hq
  split at hq
  · obtain ⟨j, h2, h3, h4, h5⟩ := ld_mem _ _ hq
    subst h4
    exact ⟨rfl, h5 j h2 (Nat.le_refl _)⟩
  · simp at hq
theorem nI_t6 {t : Nat} (h : t < 48) : ¬ nI t = -6 := nI_n6 (by omega)
theorem nI_dm2 {k : Nat} (hk : k < 192) : nI k - nI (k / 4) * nI 4 = nI (k % 4) := by
  have h := pk_rem (a := k) (d := 4) (by omega) (by decide) (by decide)
  rw [pk_div (by omega) (by decide) (by decide)] at h
  exact h
theorem nI_dm {k : Nat} (hk : k < 192) : nI k / nI 4 = nI (k / 4) ∧ nI k - nI k / nI 4 * nI 4 = nI (k % 4) := ⟨pk_div (by omega) (by decide) (by decide), pk_rem (by omega) (by decide) (by decide)⟩
set_option maxRecDepth 100000 in
theorem tX7_listHops {Γ : CT} {w : PW} {pm ty rm sp wr : Int32} {W : MW} {L : Nat} {f : Nat → Int32} {mv jp : Int32} (ho : w[43]? = some (oM pm ty rm sp wr)) (hW : isW w W) (hb : bdA W L f) (hf : okF f) (hL : L < 4) (hsd : W.2.1 L = mv) (hch : W.2.2.1 L = jp) (hmv : mv = 0 ∨ mv = 1) (hjj : jp = -6 ∨ allJ f mv jp ≠ []) : Cl Γ yX7_listHops XX7_listHops 4 0 0 [.ref 43, .int (nI L)] w (rN (toLs w W L (hopsC f mv jp))) := by
  obtain ⟨c49, c50, c51, c52, c53, c54, c55, c56, c57⟩ := id hW
  have loopE : jp = -6 → allJ f mv jp = [] → ∀ (m i : Nat) (u : PW) (x3 x4 : Option Value), i + m = 192 → (toLs w W L ((List.range i).flatMap (mK f mv)) u) → (nl x3 = true) → (nl x4 = true) → Rn Γ XX7_listHops (rmO 4 0 0) none (FinM (rN (toLs w W L (hopsC f mv jp))) 0 0) 0 0 u 19 [some (.ref 43), some (.int (nI L)), some (.int (nI i)), x3, x4] [] := by
    intro hjp hj0 m
    induction m with
    | zero =>
      intro i u x3 x4 hi hu e3 e4
      have h4 : i = 192 := by omega
      subst h4
      refine r_iload_n 20 dX7_listHops_19 rfl rfl ?_
      refine r_sipush (v := nI 192) 23 dX7_listHops_20 rfl (by decide) ?_
      refine r_icmp_ge 124 26 dX7_listHops_23 (by decide) rfl (fun q23 => ?_) (fun q23 => absurd q23 (fun z => z (nI_le (by omega) (by omega))))
      refine r_vret dX7_listHops_124 rfl (by decide) (by decide) ?_
      exact ⟨rfl, by rw [hopsC, if_pos (by rw [hj0]; rfl), allM_K]; exact hu⟩
    | succ m ih =>
      intro i u x3 x4 hi hu e3 e4
      obtain ⟨hF, V, hV, hVl, hVs⟩ := id hu
      have oV := (hF.2 43 (by unfold wS; omega)).trans ho
      have hbV := hb.sm hVs.1
      obtain ⟨VB, Vs, Vc, Vh, Vfr, Vwy, Vgs, Vgl, Vtk⟩ := V
      obtain ⟨v49, v50, v51, v52, v53, v54, v55, v56, v57⟩ : u[49]? = some (aI 192 VB) ∧ u[50]? = some (aI 4 Vs) ∧ u[51]? = some (aI 4 Vc) ∧ u[52]? = some (aI 4 Vh) ∧ u[53]? = some (aI 6000 Vfr) ∧ u[54]? = some (aI 6000 Vwy) ∧ u[55]? = some (aI 6000 Vgs) ∧ u[56]? = some (aI 6000 Vgl) ∧ u[57]? = some (aI 6000 Vtk) := id hV
      have es : Vs L = mv := by have := hVs.2.1; have h9 : Vs = W.2.1 := this; rw [h9]; exact hsd
      have ec : Vc L = jp := by have := hVs.2.2.1; have h9 : Vc = W.2.2.1 := this; rw [h9]; exact hch
      have eh := hVl.2.1
      have hlen2 : ((List.range i).flatMap (mK f mv)).length + (mK f mv i).length ≤ 192 := by
        have h9 := fm_len (g := mK f mv) (i := i + 1) (n := 192) (by omega)
        rw [fm_s, List.length_append, ← allM_K] at h9
        have := lenM (f := f) hmv
        omega
      refine r_iload_n 20 dX7_listHops_19 rfl rfl ?_
      refine r_sipush (v := nI 192) 23 dX7_listHops_20 rfl (by decide) ?_
      refine r_icmp_ge 124 26 dX7_listHops_23 (by decide) rfl (fun q23 => absurd q23 (nI_ge (by omega) (by omega))) (fun q23 => ?_)
      refine r_aload_n 27 dX7_listHops_26 rfl rfl rfl ?_
      refine r_getf 30 dX7_listHops_27 rfl f_X7_33.r (by repeat (first | assumption | refine gs_eq ?_ | refine gs_ne (by omega) ?_ | exact is_of (by assumption) | refine gs_is ?_)) rfl ?_
      refine r_iload_n 31 dX7_listHops_30 rfl rfl ?_
      refine r_iald 32 dX7_listHops_31 rfl (L) (by repeat (first | assumption | refine gs_eq ?_ | refine gs_ne (by omega) ?_ | exact is_of (by assumption) | refine gs_is ?_)) rfl hL (by decide) ?_
      rw [ec]
      refine r_bipush (v := (-6)) 34 dX7_listHops_32 rfl (by decide) ?_
      refine r_icmp_ne 124 37 dX7_listHops_34 (by decide) rfl (fun q34 => absurd q34 (fun z => z hjp)) (fun q34 => ?_)
      refine r_aload_n 38 dX7_listHops_37 rfl rfl rfl ?_
      refine r_getf 41 dX7_listHops_38 rfl f_X7_36.r (by repeat (first | assumption | refine gs_eq ?_ | refine gs_ne (by omega) ?_ | exact is_of (by assumption) | refine gs_is ?_)) rfl ?_
      refine r_iload_n 42 dX7_listHops_41 rfl rfl ?_
      refine r_iald 43 dX7_listHops_42 rfl (L) (by repeat (first | assumption | refine gs_eq ?_ | refine gs_ne (by omega) ?_ | exact is_of (by assumption) | refine gs_is ?_)) rfl hL (by decide) ?_
      have ehm : Vh L = nI ((List.range i).flatMap (mK f mv)).length := eh
      rw [ehm]
      refine r_if_eq 61 46 dX7_listHops_43 (by decide) rfl (fun q43 => ?_) (fun q43 => ?_)
      · first | skip
        refine r_iconst (v := 1) 62 dX7_listHops_61 rfl (by decide) ?_
        refine r_goto 66 dX7_listHops_62 (by decide) ?_
        refine r_istore_n (ls1 := [_, _, _, _, _]) 67 dX7_listHops_66 rfl (by decide) rfl rfl ?_
        refine r_aload_n 68 dX7_listHops_67 rfl rfl rfl ?_
        refine r_iload_n 69 dX7_listHops_68 rfl rfl ?_
        refine r_iload_n 70 dX7_listHops_69 rfl rfl ?_
        refine r_iconst (v := nI 4) 71 dX7_listHops_70 rfl (by decide) ?_
        refine r_idiv 72 dX7_listHops_71 rfl (by decide) ?_
        rw [(nI_dm (by omega)).1]
        refine r_callV0 75 dX7_listHops_72 rfl (tX7_pieceAt oV hV hbV hL (by omega)) l_X7_79 mX7_pieceAt rfl (by repeat (first | assumption | refine gs_eq ?_ | refine gs_ne (by omega) ?_ | exact is_of (by assumption) | refine gs_is ?_)) rfl (by decide) (Nat.le_of_ble_eq_true rfl) (by decide) (qI ?_)
        refine r_istore (ls1 := [_, _, _, _, _]) 77 dX7_listHops_75 rfl (by decide) rfl rfl ?_
        refine r_iload_n 78 dX7_listHops_77 rfl rfl ?_
        refine r_if_eq 118 81 dX7_listHops_78 (by decide) rfl (fun q78 => absurd q78 (by decide)) (fun q78 => ?_)
        refine r_iload 83 dX7_listHops_81 rfl rfl ?_
        refine r_callS0 86 dX7_listHops_83 rfl (tX7_sd (hf _ (by omega))) l_X7_87 mX7_sideOf rfl (by decide) (Nat.le_of_ble_eq_true rfl) (by decide) (qI ?_)
        refine r_aload_n 87 dX7_listHops_86 rfl rfl rfl ?_
        refine r_getf 90 dX7_listHops_87 rfl f_X7_30.r (by repeat (first | assumption | refine gs_eq ?_ | refine gs_ne (by omega) ?_ | exact is_of (by assumption) | refine gs_is ?_)) rfl ?_
        refine r_iload_n 91 dX7_listHops_90 rfl rfl ?_
        refine r_iald 92 dX7_listHops_91 rfl (L) (by repeat (first | assumption | refine gs_eq ?_ | refine gs_ne (by omega) ?_ | exact is_of (by assumption) | refine gs_is ?_)) rfl hL (by decide) ?_
        rw [es]
        refine r_icmp_ne 118 95 dX7_listHops_92 (by decide) rfl (fun q92 => ?_) (fun q92 => ?_)
        · refine r_iinc (ls1 := [_, _, _, _, _]) 121 dX7_listHops_118 rfl (by decide) rfl rfl (nI_1 i) rfl ?_
          refine r_goto 19 dX7_listHops_121 (by decide) ?_
          first
          | (have e9 : mK f mv i = mAt f (i / 4) (i % 4) := by (unfold mK; rw [if_pos q92])
             refine ih (i + 1) u1 _ _ (by omega) ?_ rfl rfl
             rw [fm_s, e9]
             exact toLs.tr hF hVs hu1)
          | (have e9 : mK f mv i = [] := by (unfold mK; rw [if_pos q92]; exact mAt_may (eq_f q104))
             refine ih (i + 1) u _ _ (by omega) ?_ rfl rfl
             rw [fm_s, e9, List.append_nil]
             exact hu)
          | (have e9 : mK f mv i = [] := by (unfold mK; rw [if_neg q92])
             refine ih (i + 1) u _ _ (by omega) ?_ rfl rfl
             rw [fm_s, e9, List.append_nil]
             exact hu)
        · refine r_aload_n 96 dX7_listHops_95 rfl rfl rfl ?_
          refine r_iload 98 dX7_listHops_96 rfl rfl ?_
          refine r_iload_n 99 dX7_listHops_98 rfl rfl ?_
          refine r_iconst (v := nI 4) 100 dX7_listHops_99 rfl (by decide) ?_
          refine r_irem 101 dX7_listHops_100 rfl (by decide) ?_
          rw [(nI_dm (by omega)).2]
          refine r_callV0 104 dX7_listHops_101 rfl (tX7_goesWay oV (hf _ (by omega)) (okP_sd (by rw [q92]; exact hmv)) (Nat.mod_lt _ (by decide))) l_X7_101 mX7_goesWay rfl (by repeat (first | assumption | refine gs_eq ?_ | refine gs_ne (by omega) ?_ | exact is_of (by assumption) | refine gs_is ?_)) rfl (by decide) (Nat.le_of_ble_eq_true rfl) (by decide) (qI ?_)
          refine r_if_eq 118 107 dX7_listHops_104 (by decide) rfl (fun q104 => ?_) (fun q104 => ?_)
          · refine r_iinc (ls1 := [_, _, _, _, _]) 121 dX7_listHops_118 rfl (by decide) rfl rfl (nI_1 i) rfl ?_
            refine r_goto 19 dX7_listHops_121 (by decide) ?_
            first
            | (have e9 : mK f mv i = mAt f (i / 4) (i % 4) := by (unfold mK; rw [if_pos q92])
               refine ih (i + 1) u1 _ _ (by omega) ?_ rfl rfl
               rw [fm_s, e9]
               exact toLs.tr hF hVs hu1)
            | (have e9 : mK f mv i = [] := by (unfold mK; rw [if_pos q92]; exact mAt_may (eq_f q104))
               refine ih (i + 1) u _ _ (by omega) ?_ rfl rfl
               rw [fm_s, e9, List.append_nil]
               exact hu)
            | (have e9 : mK f mv i = [] := by (unfold mK; rw [if_neg q92])
               refine ih (i + 1) u _ _ (by omega) ?_ rfl rfl
               rw [fm_s, e9, List.append_nil]
               exact hu)
          · refine r_aload_n 108 dX7_listHops_107 rfl rfl rfl ?_
            refine r_iload_n 109 dX7_listHops_108 rfl rfl ?_
            refine r_iload_n 110 dX7_listHops_109 rfl rfl ?_
            refine r_iconst (v := nI 4) 111 dX7_listHops_110 rfl (by decide) ?_
            refine r_idiv 112 dX7_listHops_111 rfl (by decide) ?_
            refine r_iload_n 113 dX7_listHops_112 rfl rfl ?_
            refine r_iconst (v := nI 4) 114 dX7_listHops_113 rfl (by decide) ?_
            refine r_irem 115 dX7_listHops_114 rfl (by decide) ?_
            rw [(nI_dm (by omega)).1, nI_dm2 (by omega)]
            refine r_callV0 118 dX7_listHops_115 rfl (tX7_listMoves oV hV hbV hf hVl hL (by omega) (Nat.mod_lt _ (by decide)) (by rw [q92]; exact hmv) (ne_f q104) (by rw [List.length_append]; have e : mK f mv i = mAt f (i / 4) (i % 4) := (by unfold mK; rw [if_pos q92]); rw [e] at hlen2; exact hlen2)) l_X7_111 mX7_listMoves rfl (by repeat (first | assumption | refine gs_eq ?_ | refine gs_ne (by omega) ?_ | exact is_of (by assumption) | refine gs_is ?_)) rfl (by decide) (Nat.le_of_ble_eq_true rfl) (by decide) (qN fun u1 hu1 => ?_)
            refine r_iinc (ls1 := [_, _, _, _, _]) 121 dX7_listHops_118 rfl (by decide) rfl rfl (nI_1 i) rfl ?_
            refine r_goto 19 dX7_listHops_121 (by decide) ?_
            first
            | (have e9 : mK f mv i = mAt f (i / 4) (i % 4) := by (unfold mK; rw [if_pos q92])
               refine ih (i + 1) u1 _ _ (by omega) ?_ rfl rfl
               rw [fm_s, e9]
               exact toLs.tr hF hVs hu1)
            | (have e9 : mK f mv i = [] := by (unfold mK; rw [if_pos q92]; exact mAt_may (eq_f q104))
               refine ih (i + 1) u _ _ (by omega) ?_ rfl rfl
               rw [fm_s, e9, List.append_nil]
               exact hu)
            | (have e9 : mK f mv i = [] := by (unfold mK; rw [if_neg q92])
               refine ih (i + 1) u _ _ (by omega) ?_ rfl rfl
               rw [fm_s, e9, List.append_nil]
               exact hu)
      · refine r_aload_n 47 dX7_listHops_46 rfl rfl rfl ?_
        refine r_getf 50 dX7_listHops_47 rfl f_X7_51.r (by repeat (first | assumption | refine gs_eq ?_ | refine gs_ne (by omega) ?_ | exact is_of (by assumption) | refine gs_is ?_)) rfl ?_
        refine r_sipush (v := nI 1500) 53 dX7_listHops_50 rfl (by decide) ?_
        refine r_iload_n 54 dX7_listHops_53 rfl rfl ?_
        refine r_imul 55 dX7_listHops_54 rfl ?_
        refine r_iald 56 dX7_listHops_55 rfl (1500 * L) (by repeat (first | assumption | refine gs_eq ?_ | refine gs_ne (by omega) ?_ | exact is_of (by assumption) | refine gs_is ?_)) (pk_mul _ _) (by omega) (by decide) ?_
        have htk : Vtk (1500 * L) = -6 := by
          rcases hl0 : (List.range i).flatMap (mK f mv) with _ | ⟨q0, l1⟩
          · exact absurd (by rw [hl0]; rfl) q43
          · have h0 := (hVl.2.2 0 q0 (by rw [hl0]; rfl)).2.2.2.2
            have h1 : q0 ∈ allM f mv := by
              rw [allM_K]
              obtain ⟨a, b, c⟩ := List.mem_flatMap.mp (show q0 ∈ (List.range i).flatMap (mK f mv) by rw [hl0]; exact List.mem_cons_self)
              exact List.mem_flatMap.mpr ⟨a, List.mem_range.mpr (by have := List.mem_range.mp b; omega), c⟩
            exact h0.trans (allM_tk h1).1
        rw [htk]
        refine r_bipush (v := (-6)) 58 dX7_listHops_56 rfl (by decide) ?_
        refine r_icmp_ne 65 61 dX7_listHops_58 (by decide) rfl (fun q58 => absurd q58 (fun z => z rfl)) (fun q58 => ?_)
        first | skip
        refine r_iconst (v := 1) 62 dX7_listHops_61 rfl (by decide) ?_
        refine r_goto 66 dX7_listHops_62 (by decide) ?_
        refine r_istore_n (ls1 := [_, _, _, _, _]) 67 dX7_listHops_66 rfl (by decide) rfl rfl ?_
        refine r_aload_n 68 dX7_listHops_67 rfl rfl rfl ?_
        refine r_iload_n 69 dX7_listHops_68 rfl rfl ?_
        refine r_iload_n 70 dX7_listHops_69 rfl rfl ?_
        refine r_iconst (v := nI 4) 71 dX7_listHops_70 rfl (by decide) ?_
        refine r_idiv 72 dX7_listHops_71 rfl (by decide) ?_
        rw [(nI_dm (by omega)).1]
        refine r_callV0 75 dX7_listHops_72 rfl (tX7_pieceAt oV hV hbV hL (by omega)) l_X7_79 mX7_pieceAt rfl (by repeat (first | assumption | refine gs_eq ?_ | refine gs_ne (by omega) ?_ | exact is_of (by assumption) | refine gs_is ?_)) rfl (by decide) (Nat.le_of_ble_eq_true rfl) (by decide) (qI ?_)
        refine r_istore (ls1 := [_, _, _, _, _]) 77 dX7_listHops_75 rfl (by decide) rfl rfl ?_
        refine r_iload_n 78 dX7_listHops_77 rfl rfl ?_
        refine r_if_eq 118 81 dX7_listHops_78 (by decide) rfl (fun q78 => absurd q78 (by decide)) (fun q78 => ?_)
        refine r_iload 83 dX7_listHops_81 rfl rfl ?_
        refine r_callS0 86 dX7_listHops_83 rfl (tX7_sd (hf _ (by omega))) l_X7_87 mX7_sideOf rfl (by decide) (Nat.le_of_ble_eq_true rfl) (by decide) (qI ?_)
        refine r_aload_n 87 dX7_listHops_86 rfl rfl rfl ?_
        refine r_getf 90 dX7_listHops_87 rfl f_X7_30.r (by repeat (first | assumption | refine gs_eq ?_ | refine gs_ne (by omega) ?_ | exact is_of (by assumption) | refine gs_is ?_)) rfl ?_
        refine r_iload_n 91 dX7_listHops_90 rfl rfl ?_
        refine r_iald 92 dX7_listHops_91 rfl (L) (by repeat (first | assumption | refine gs_eq ?_ | refine gs_ne (by omega) ?_ | exact is_of (by assumption) | refine gs_is ?_)) rfl hL (by decide) ?_
        rw [es]
        refine r_icmp_ne 118 95 dX7_listHops_92 (by decide) rfl (fun q92 => ?_) (fun q92 => ?_)
        · refine r_iinc (ls1 := [_, _, _, _, _]) 121 dX7_listHops_118 rfl (by decide) rfl rfl (nI_1 i) rfl ?_
          refine r_goto 19 dX7_listHops_121 (by decide) ?_
          first
          | (have e9 : mK f mv i = mAt f (i / 4) (i % 4) := by (unfold mK; rw [if_pos q92])
             refine ih (i + 1) u1 _ _ (by omega) ?_ rfl rfl
             rw [fm_s, e9]
             exact toLs.tr hF hVs hu1)
          | (have e9 : mK f mv i = [] := by (unfold mK; rw [if_pos q92]; exact mAt_may (eq_f q104))
             refine ih (i + 1) u _ _ (by omega) ?_ rfl rfl
             rw [fm_s, e9, List.append_nil]
             exact hu)
          | (have e9 : mK f mv i = [] := by (unfold mK; rw [if_neg q92])
             refine ih (i + 1) u _ _ (by omega) ?_ rfl rfl
             rw [fm_s, e9, List.append_nil]
             exact hu)
        · refine r_aload_n 96 dX7_listHops_95 rfl rfl rfl ?_
          refine r_iload 98 dX7_listHops_96 rfl rfl ?_
          refine r_iload_n 99 dX7_listHops_98 rfl rfl ?_
          refine r_iconst (v := nI 4) 100 dX7_listHops_99 rfl (by decide) ?_
          refine r_irem 101 dX7_listHops_100 rfl (by decide) ?_
          rw [(nI_dm (by omega)).2]
          refine r_callV0 104 dX7_listHops_101 rfl (tX7_goesWay oV (hf _ (by omega)) (okP_sd (by rw [q92]; exact hmv)) (Nat.mod_lt _ (by decide))) l_X7_101 mX7_goesWay rfl (by repeat (first | assumption | refine gs_eq ?_ | refine gs_ne (by omega) ?_ | exact is_of (by assumption) | refine gs_is ?_)) rfl (by decide) (Nat.le_of_ble_eq_true rfl) (by decide) (qI ?_)
          refine r_if_eq 118 107 dX7_listHops_104 (by decide) rfl (fun q104 => ?_) (fun q104 => ?_)
          · refine r_iinc (ls1 := [_, _, _, _, _]) 121 dX7_listHops_118 rfl (by decide) rfl rfl (nI_1 i) rfl ?_
            refine r_goto 19 dX7_listHops_121 (by decide) ?_
            first
            | (have e9 : mK f mv i = mAt f (i / 4) (i % 4) := by (unfold mK; rw [if_pos q92])
               refine ih (i + 1) u1 _ _ (by omega) ?_ rfl rfl
               rw [fm_s, e9]
               exact toLs.tr hF hVs hu1)
            | (have e9 : mK f mv i = [] := by (unfold mK; rw [if_pos q92]; exact mAt_may (eq_f q104))
               refine ih (i + 1) u _ _ (by omega) ?_ rfl rfl
               rw [fm_s, e9, List.append_nil]
               exact hu)
            | (have e9 : mK f mv i = [] := by (unfold mK; rw [if_neg q92])
               refine ih (i + 1) u _ _ (by omega) ?_ rfl rfl
               rw [fm_s, e9, List.append_nil]
               exact hu)
          · refine r_aload_n 108 dX7_listHops_107 rfl rfl rfl ?_
            refine r_iload_n 109 dX7_listHops_108 rfl rfl ?_
            refine r_iload_n 110 dX7_listHops_109 rfl rfl ?_
            refine r_iconst (v := nI 4) 111 dX7_listHops_110 rfl (by decide) ?_
            refine r_idiv 112 dX7_listHops_111 rfl (by decide) ?_
            refine r_iload_n 113 dX7_listHops_112 rfl rfl ?_
            refine r_iconst (v := nI 4) 114 dX7_listHops_113 rfl (by decide) ?_
            refine r_irem 115 dX7_listHops_114 rfl (by decide) ?_
            rw [(nI_dm (by omega)).1, nI_dm2 (by omega)]
            refine r_callV0 118 dX7_listHops_115 rfl (tX7_listMoves oV hV hbV hf hVl hL (by omega) (Nat.mod_lt _ (by decide)) (by rw [q92]; exact hmv) (ne_f q104) (by rw [List.length_append]; have e : mK f mv i = mAt f (i / 4) (i % 4) := (by unfold mK; rw [if_pos q92]); rw [e] at hlen2; exact hlen2)) l_X7_111 mX7_listMoves rfl (by repeat (first | assumption | refine gs_eq ?_ | refine gs_ne (by omega) ?_ | exact is_of (by assumption) | refine gs_is ?_)) rfl (by decide) (Nat.le_of_ble_eq_true rfl) (by decide) (qN fun u1 hu1 => ?_)
            refine r_iinc (ls1 := [_, _, _, _, _]) 121 dX7_listHops_118 rfl (by decide) rfl rfl (nI_1 i) rfl ?_
            refine r_goto 19 dX7_listHops_121 (by decide) ?_
            first
            | (have e9 : mK f mv i = mAt f (i / 4) (i % 4) := by (unfold mK; rw [if_pos q92])
               refine ih (i + 1) u1 _ _ (by omega) ?_ rfl rfl
               rw [fm_s, e9]
               exact toLs.tr hF hVs hu1)
            | (have e9 : mK f mv i = [] := by (unfold mK; rw [if_pos q92]; exact mAt_may (eq_f q104))
               refine ih (i + 1) u _ _ (by omega) ?_ rfl rfl
               rw [fm_s, e9, List.append_nil]
               exact hu)
            | (have e9 : mK f mv i = [] := by (unfold mK; rw [if_neg q92])
               refine ih (i + 1) u _ _ (by omega) ?_ rfl rfl
               rw [fm_s, e9, List.append_nil]
               exact hu)
  have loopJ : allJ f mv jp ≠ [] → ∀ (m i : Nat) (u : PW) (x3 x4 : Option Value), i + m = 192 → (toLs w W L (allJ f mv jp) u) → (nl x3 = true) → (nl x4 = true) → Rn Γ XX7_listHops (rmO 4 0 0) none (FinM (rN (toLs w W L (hopsC f mv jp))) 0 0) 0 0 u 19 [some (.ref 43), some (.int (nI L)), some (.int (nI i)), x3, x4] [] := by
    intro hj0 m
    induction m with
    | zero =>
      intro i u x3 x4 hi hu e3 e4
      have h4 : i = 192 := by omega
      subst h4
      refine r_iload_n 20 dX7_listHops_19 rfl rfl ?_
      refine r_sipush (v := nI 192) 23 dX7_listHops_20 rfl (by decide) ?_
      refine r_icmp_ge 124 26 dX7_listHops_23 (by decide) rfl (fun q23 => ?_) (fun q23 => absurd q23 (fun z => z (nI_le (by omega) (by omega))))
      refine r_vret dX7_listHops_124 rfl (by decide) (by decide) ?_
      exact ⟨rfl, by rw [hopsC, if_neg (fun z => hj0 (List.eq_nil_of_length_eq_zero z))]; exact hu⟩
    | succ m ih =>
      intro i u x3 x4 hi hu e3 e4
      obtain ⟨hF, V, hV, hVl, hVs⟩ := id hu
      have oV := (hF.2 43 (by unfold wS; omega)).trans ho
      have hbV := hb.sm hVs.1
      obtain ⟨VB, Vs, Vc, Vh, Vfr, Vwy, Vgs, Vgl, Vtk⟩ := V
      obtain ⟨v49, v50, v51, v52, v53, v54, v55, v56, v57⟩ : u[49]? = some (aI 192 VB) ∧ u[50]? = some (aI 4 Vs) ∧ u[51]? = some (aI 4 Vc) ∧ u[52]? = some (aI 4 Vh) ∧ u[53]? = some (aI 6000 Vfr) ∧ u[54]? = some (aI 6000 Vwy) ∧ u[55]? = some (aI 6000 Vgs) ∧ u[56]? = some (aI 6000 Vgl) ∧ u[57]? = some (aI 6000 Vtk) := id hV
      have es : Vs L = mv := by have := hVs.2.1; have h9 : Vs = W.2.1 := this; rw [h9]; exact hsd
      have ec : Vc L = jp := by have := hVs.2.2.1; have h9 : Vc = W.2.2.1 := this; rw [h9]; exact hch
      have eh := hVl.2.1
      refine r_iload_n 20 dX7_listHops_19 rfl rfl ?_
      refine r_sipush (v := nI 192) 23 dX7_listHops_20 rfl (by decide) ?_
      refine r_icmp_ge 124 26 dX7_listHops_23 (by decide) rfl (fun q23 => absurd q23 (nI_ge (by omega) (by omega))) (fun q23 => ?_)
      refine r_aload_n 27 dX7_listHops_26 rfl rfl rfl ?_
      refine r_getf 30 dX7_listHops_27 rfl f_X7_33.r (by repeat (first | assumption | refine gs_eq ?_ | refine gs_ne (by omega) ?_ | exact is_of (by assumption) | refine gs_is ?_)) rfl ?_
      refine r_iload_n 31 dX7_listHops_30 rfl rfl ?_
      refine r_iald 32 dX7_listHops_31 rfl (L) (by repeat (first | assumption | refine gs_eq ?_ | refine gs_ne (by omega) ?_ | exact is_of (by assumption) | refine gs_is ?_)) rfl hL (by decide) ?_
      rw [ec]
      refine r_bipush (v := (-6)) 34 dX7_listHops_32 rfl (by decide) ?_
      refine r_icmp_ne 124 37 dX7_listHops_34 (by decide) rfl (fun q34 => ?_) (fun q34 => ?_)
      · refine r_vret dX7_listHops_124 rfl (by decide) (by decide) ?_
        exact ⟨rfl, by rw [hopsC, if_neg (fun z => hj0 (List.eq_nil_of_length_eq_zero z))]; exact hu⟩
      · refine r_aload_n 38 dX7_listHops_37 rfl rfl rfl ?_
        refine r_getf 41 dX7_listHops_38 rfl f_X7_36.r (by repeat (first | assumption | refine gs_eq ?_ | refine gs_ne (by omega) ?_ | exact is_of (by assumption) | refine gs_is ?_)) rfl ?_
        refine r_iload_n 42 dX7_listHops_41 rfl rfl ?_
        refine r_iald 43 dX7_listHops_42 rfl (L) (by repeat (first | assumption | refine gs_eq ?_ | refine gs_ne (by omega) ?_ | exact is_of (by assumption) | refine gs_is ?_)) rfl hL (by decide) ?_
        have ehm : Vh L = nI (allJ f mv jp).length := eh
        rw [ehm]
        refine r_if_eq 61 46 dX7_listHops_43 (by decide) rfl (fun q43 => absurd q43 (fun z => hj0 (List.eq_nil_of_length_eq_zero (nI_z (lenJ hmv) z)))) (fun q43 => ?_)
        refine r_aload_n 47 dX7_listHops_46 rfl rfl rfl ?_
        refine r_getf 50 dX7_listHops_47 rfl f_X7_51.r (by repeat (first | assumption | refine gs_eq ?_ | refine gs_ne (by omega) ?_ | exact is_of (by assumption) | refine gs_is ?_)) rfl ?_
        refine r_sipush (v := nI 1500) 53 dX7_listHops_50 rfl (by decide) ?_
        refine r_iload_n 54 dX7_listHops_53 rfl rfl ?_
        refine r_imul 55 dX7_listHops_54 rfl ?_
        refine r_iald 56 dX7_listHops_55 rfl (1500 * L) (by repeat (first | assumption | refine gs_eq ?_ | refine gs_ne (by omega) ?_ | exact is_of (by assumption) | refine gs_is ?_)) (pk_mul _ _) (by omega) (by decide) ?_
        have htk : ¬ Vtk (1500 * L) = -6 := by
          rcases hl0 : allJ f mv jp with _ | ⟨q0, l1⟩
          · exact absurd hl0 hj0
          · have h0 := (hVl.2.2 0 q0 (by rw [hl0]; rfl)).2.2.2.2
            obtain ⟨t, ht, e1, -⟩ := allJ_tk (show q0 ∈ allJ f mv jp by rw [hl0]; exact List.mem_cons_self)
            intro z
            exact nI_t6 ht ((h0.trans e1).symm.trans z)
        refine r_bipush (v := (-6)) 58 dX7_listHops_56 rfl (by decide) ?_
        refine r_icmp_ne 65 61 dX7_listHops_58 (by decide) rfl (fun q58 => ?_) (fun q58 => absurd q58 htk)
        refine r_iconst (v := 0) 66 dX7_listHops_65 rfl (by decide) ?_
        refine r_istore_n (ls1 := [_, _, _, _, _]) 67 dX7_listHops_66 rfl (by decide) rfl rfl ?_
        refine r_aload_n 68 dX7_listHops_67 rfl rfl rfl ?_
        refine r_iload_n 69 dX7_listHops_68 rfl rfl ?_
        refine r_iload_n 70 dX7_listHops_69 rfl rfl ?_
        refine r_iconst (v := nI 4) 71 dX7_listHops_70 rfl (by decide) ?_
        refine r_idiv 72 dX7_listHops_71 rfl (by decide) ?_
        rw [(nI_dm (by omega)).1]
        refine r_callV0 75 dX7_listHops_72 rfl (tX7_pieceAt oV hV hbV hL (by omega)) l_X7_79 mX7_pieceAt rfl (by repeat (first | assumption | refine gs_eq ?_ | refine gs_ne (by omega) ?_ | exact is_of (by assumption) | refine gs_is ?_)) rfl (by decide) (Nat.le_of_ble_eq_true rfl) (by decide) (qI ?_)
        refine r_istore (ls1 := [_, _, _, _, _]) 77 dX7_listHops_75 rfl (by decide) rfl rfl ?_
        refine r_iload_n 78 dX7_listHops_77 rfl rfl ?_
        refine r_if_eq 118 81 dX7_listHops_78 (by decide) rfl (fun q78 => ?_) (fun q78 => absurd q78 (by decide))
        refine r_iinc (ls1 := [_, _, _, _, _]) 121 dX7_listHops_118 rfl (by decide) rfl rfl (nI_1 i) rfl ?_
        refine r_goto 19 dX7_listHops_121 (by decide) ?_
        exact ih (i + 1) u _ _ (by omega) hu rfl rfl
  refine Cl.of (ls := [some (.ref 43), some (.int (nI L)), none, none, none]) rfl (by decide +kernel) (fun h => by cases h) (Nat.le_of_ble_eq_true rfl) rfl ?_
  refine r_aload_n 1 dX7_listHops_0 rfl rfl rfl ?_
  refine r_iload_n 2 dX7_listHops_1 rfl rfl ?_
  refine r_aload_n 3 dX7_listHops_2 rfl rfl rfl ?_
  refine r_getf 6 dX7_listHops_3 rfl f_X7_30.r (by repeat (first | assumption | refine gs_eq ?_ | refine gs_ne (by omega) ?_ | exact is_of (by assumption) | refine gs_is ?_)) rfl ?_
  refine r_iload_n 7 dX7_listHops_6 rfl rfl ?_
  refine r_iald 8 dX7_listHops_7 rfl (L) (by repeat (first | assumption | refine gs_eq ?_ | refine gs_ne (by omega) ?_ | exact is_of (by assumption) | refine gs_is ?_)) rfl hL (by decide) ?_
  rw [hsd]
  refine r_aload_n 9 dX7_listHops_8 rfl rfl rfl ?_
  refine r_getf 12 dX7_listHops_9 rfl f_X7_33.r (by repeat (first | assumption | refine gs_eq ?_ | refine gs_ne (by omega) ?_ | exact is_of (by assumption) | refine gs_is ?_)) rfl ?_
  refine r_iload_n 13 dX7_listHops_12 rfl rfl ?_
  refine r_iald 14 dX7_listHops_13 rfl (L) (by repeat (first | assumption | refine gs_eq ?_ | refine gs_ne (by omega) ?_ | exact is_of (by assumption) | refine gs_is ?_)) rfl hL (by decide) ?_
  rw [hch]
  refine r_callV0 17 dX7_listHops_14 rfl (tX7_listAllJumps ho hW hb hf hL hmv (lenJ hmv)) l_X7_108 mX7_listAllJumps rfl (by repeat (first | assumption | refine gs_eq ?_ | refine gs_ne (by omega) ?_ | exact is_of (by assumption) | refine gs_is ?_)) rfl (by decide) (Nat.le_of_ble_eq_true rfl) (by decide) (qN fun w1 hu => ?_)
  refine r_iconst (v := nI 0) 18 dX7_listHops_17 rfl (by decide) ?_
  refine r_istore_n (ls1 := [_, _, _, _, _]) 19 dX7_listHops_18 rfl (by decide) rfl rfl ?_
  by_cases hj0 : allJ f mv jp = []
  · rw [hj0] at hu
    have hjp : jp = -6 := by
      rcases hjj with h | h
      · exact h
      · exact absurd hj0 h
    exact loopE hjp hj0 192 0 w1 none none (by omega) hu rfl rfl
  · exact loopJ hj0 192 0 w1 none none (by omega) hu rfl rfl

