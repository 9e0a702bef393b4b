/-! ===== the small functions of squares, pieces, sides ===== -/
theorem bI_of {P : Prop} [Decidable P] (h : P) : bI (decide P) = 1 := by simp [bI, h]
theorem bI_no {P : Prop} [Decidable P] (h : ¬ P) : bI (decide P) = 0 := by simp [bI, h]
def sdO (p : Int32) : Int32 := if p = 0 ∨ p = 1 then 0 else if p = 2 ∨ p = 3 then 1 else -6
def isKg (p : Int32) : Bool := decide (p = 1 ∨ p = 3)
def mayG (p : Int32) (way : Int32) : Bool := if p = 0 then decide (way < 2) else if p = 2 then decide (2 ≤ way) else decide (p ≠ -6)
def inI (v lo hi : Int32) : Bool := decide (lo ≤ v ∧ v ≤ hi)
def fmO (a b : Int32) : Int32 := if 0 ≤ (a ^^^ b) then a - a / b * b else if a - a / b * b = 0 then a - a / b * b else a - a / b * b + b
theorem i_nlt {a b : Int32} : ¬ a < b ↔ b ≤ a := Int32.not_lt
theorem i_nle {a b : Int32} : ¬ a ≤ b ↔ b < a := Int32.not_le
theorem i_lt48 {s : Int32} : s < 48 ↔ s ≤ 47 := by
  rw [Int32.lt_iff_toInt_lt, Int32.le_iff_toInt_le]
  show s.toInt < 48 ↔ s.toInt ≤ 47
  omega
theorem i_lt4 {s : Int32} : s < 4 ↔ s ≤ 3 := by
  rw [Int32.lt_iff_toInt_lt, Int32.le_iff_toInt_le]
  show s.toInt < 4 ↔ s.toInt ≤ 3
  omega
set_option maxRecDepth 100000 in
theorem tX6_isSquare {Γ : CT} {s : Int32} {w : PW}  : Cl Γ yX6_isSquare XX6_isSquare 0 0 0 [.int s] w (rI (bI (inI s 0 47)) w) := by
  refine Cl.of (ls := [some (.int s)]) rfl (by decide +kernel) (fun h => by cases h) (Nat.le_of_ble_eq_true rfl) rfl ?_
  refine r_iload_n 1 dX6_isSquare_0 rfl rfl ?_
  refine r_if_lt 14 4 dX6_isSquare_1 (by decide) rfl (fun q1 => ?_) (fun q1 => ?_)
  · refine r_iconst (v := 0) 15 dX6_isSquare_14 rfl (by decide) ?_
    refine r_bret dX6_isSquare_15 rfl (by first | exact Or.inl rfl | exact Or.inr rfl) (by decide) (by decide) ?_
    first | exact ⟨congrArg (fun z => some (Value.int z)) (bI_of (by simp only [Int32.lt_iff_toInt_lt, Int32.le_iff_toInt_le, ← Int32.toInt_inj] at *; simp at *; omega)).symm, rfl⟩ | exact ⟨congrArg (fun z => some (Value.int z)) (bI_no (by simp only [Int32.lt_iff_toInt_lt, Int32.le_iff_toInt_le, ← Int32.toInt_inj] at *; simp at *; omega)).symm, rfl⟩
  · refine r_iload_n 5 dX6_isSquare_4 rfl rfl ?_
    refine r_bipush (v := 48) 7 dX6_isSquare_5 rfl (by decide) ?_
    refine r_icmp_ge 14 10 dX6_isSquare_7 (by decide) rfl (fun q7 => ?_) (fun q7 => ?_)
    · refine r_iconst (v := 0) 15 dX6_isSquare_14 rfl (by decide) ?_
      refine r_bret dX6_isSquare_15 rfl (by first | exact Or.inl rfl | exact Or.inr rfl) (by decide) (by decide) ?_
      first | exact ⟨congrArg (fun z => some (Value.int z)) (bI_of (by simp only [Int32.lt_iff_toInt_lt, Int32.le_iff_toInt_le, ← Int32.toInt_inj] at *; simp at *; omega)).symm, rfl⟩ | exact ⟨congrArg (fun z => some (Value.int z)) (bI_no (by simp only [Int32.lt_iff_toInt_lt, Int32.le_iff_toInt_le, ← Int32.toInt_inj] at *; simp at *; omega)).symm, rfl⟩
    · refine r_iconst (v := 1) 11 dX6_isSquare_10 rfl (by decide) ?_
      refine r_goto 15 dX6_isSquare_11 (by decide) ?_
      refine r_bret dX6_isSquare_15 rfl (by first | exact Or.inl rfl | exact Or.inr rfl) (by decide) (by decide) ?_
      first | exact ⟨congrArg (fun z => some (Value.int z)) (bI_of (by simp only [Int32.lt_iff_toInt_lt, Int32.le_iff_toInt_le, ← Int32.toInt_inj] at *; simp at *; omega)).symm, rfl⟩ | exact ⟨congrArg (fun z => some (Value.int z)) (bI_no (by simp only [Int32.lt_iff_toInt_lt, Int32.le_iff_toInt_le, ← Int32.toInt_inj] at *; simp at *; omega)).symm, rfl⟩

set_option maxRecDepth 100000 in
theorem tX6_isPiece {Γ : CT} {s : Int32} {w : PW}  : Cl Γ yX6_isPiece XX6_isPiece 0 0 0 [.int s] w (rI (bI (inI s 0 3)) w) := by
  refine Cl.of (ls := [some (.int s)]) rfl (by decide +kernel) (fun h => by cases h) (Nat.le_of_ble_eq_true rfl) rfl ?_
  refine r_iload_n 1 dX6_isPiece_0 rfl rfl ?_
  refine r_if_lt 13 4 dX6_isPiece_1 (by decide) rfl (fun q1 => ?_) (fun q1 => ?_)
  · refine r_iconst (v := 0) 14 dX6_isPiece_13 rfl (by decide) ?_
    refine r_bret dX6_isPiece_14 rfl (by first | exact Or.inl rfl | exact Or.inr rfl) (by decide) (by decide) ?_
    first | exact ⟨congrArg (fun z => some (Value.int z)) (bI_of (by simp only [Int32.lt_iff_toInt_lt, Int32.le_iff_toInt_le, ← Int32.toInt_inj] at *; simp at *; omega)).symm, rfl⟩ | exact ⟨congrArg (fun z => some (Value.int z)) (bI_no (by simp only [Int32.lt_iff_toInt_lt, Int32.le_iff_toInt_le, ← Int32.toInt_inj] at *; simp at *; omega)).symm, rfl⟩
  · refine r_iload_n 5 dX6_isPiece_4 rfl rfl ?_
    refine r_iconst (v := 4) 6 dX6_isPiece_5 rfl (by decide) ?_
    refine r_icmp_ge 13 9 dX6_isPiece_6 (by decide) rfl (fun q6 => ?_) (fun q6 => ?_)
    · refine r_iconst (v := 0) 14 dX6_isPiece_13 rfl (by decide) ?_
      refine r_bret dX6_isPiece_14 rfl (by first | exact Or.inl rfl | exact Or.inr rfl) (by decide) (by decide) ?_
      first | exact ⟨congrArg (fun z => some (Value.int z)) (bI_of (by simp only [Int32.lt_iff_toInt_lt, Int32.le_iff_toInt_le, ← Int32.toInt_inj] at *; simp at *; omega)).symm, rfl⟩ | exact ⟨congrArg (fun z => some (Value.int z)) (bI_no (by simp only [Int32.lt_iff_toInt_lt, Int32.le_iff_toInt_le, ← Int32.toInt_inj] at *; simp at *; omega)).symm, rfl⟩
    · refine r_iconst (v := 1) 10 dX6_isPiece_9 rfl (by decide) ?_
      refine r_goto 14 dX6_isPiece_10 (by decide) ?_
      refine r_bret dX6_isPiece_14 rfl (by first | exact Or.inl rfl | exact Or.inr rfl) (by decide) (by decide) ?_
      first | exact ⟨congrArg (fun z => some (Value.int z)) (bI_of (by simp only [Int32.lt_iff_toInt_lt, Int32.le_iff_toInt_le, ← Int32.toInt_inj] at *; simp at *; omega)).symm, rfl⟩ | exact ⟨congrArg (fun z => some (Value.int z)) (bI_no (by simp only [Int32.lt_iff_toInt_lt, Int32.le_iff_toInt_le, ← Int32.toInt_inj] at *; simp at *; omega)).symm, rfl⟩

set_option maxRecDepth 100000 in
theorem tX6_isSide {Γ : CT} {s : Int32} {w : PW}  : Cl Γ yX6_isSide XX6_isSide 0 0 0 [.int s] w (rI (bI (decide (s = 0 ∨ s = 1))) w) := by
  refine Cl.of (ls := [some (.int s)]) rfl (by decide +kernel) (fun h => by cases h) (Nat.le_of_ble_eq_true rfl) rfl ?_
  refine r_iload_n 1 dX6_isSide_0 rfl rfl ?_
  refine r_if_eq 9 4 dX6_isSide_1 (by decide) rfl (fun q1 => ?_) (fun q1 => ?_)
  · refine r_iconst (v := 1) 10 dX6_isSide_9 rfl (by decide) ?_
    refine r_goto 14 dX6_isSide_10 (by decide) ?_
    refine r_bret dX6_isSide_14 rfl (by first | exact Or.inl rfl | exact Or.inr rfl) (by decide) (by decide) ?_
    exact ⟨by simp_all [inI, bI, i_nlt, i_nle], rfl⟩
  · refine r_iload_n 5 dX6_isSide_4 rfl rfl ?_
    refine r_iconst (v := 1) 6 dX6_isSide_5 rfl (by decide) ?_
    refine r_icmp_ne 13 9 dX6_isSide_6 (by decide) rfl (fun q6 => ?_) (fun q6 => ?_)
    · refine r_iconst (v := 0) 14 dX6_isSide_13 rfl (by decide) ?_
      refine r_bret dX6_isSide_14 rfl (by first | exact Or.inl rfl | exact Or.inr rfl) (by decide) (by decide) ?_
      exact ⟨by simp_all [inI, bI, i_nlt, i_nle], rfl⟩
    · refine r_iconst (v := 1) 10 dX6_isSide_9 rfl (by decide) ?_
      refine r_goto 14 dX6_isSide_10 (by decide) ?_
      refine r_bret dX6_isSide_14 rfl (by first | exact Or.inl rfl | exact Or.inr rfl) (by decide) (by decide) ?_
      exact ⟨by simp_all [inI, bI, i_nlt, i_nle], rfl⟩

set_option maxRecDepth 100000 in
theorem tX6_isKing {Γ : CT} {s : Int32} {w : PW}  : Cl Γ yX6_isKing XX6_isKing 0 0 0 [.int s] w (rI (bI (isKg s)) w) := by
  refine Cl.of (ls := [some (.int s)]) rfl (by decide +kernel) (fun h => by cases h) (Nat.le_of_ble_eq_true rfl) rfl ?_
  refine r_iload_n 1 dX6_isKing_0 rfl rfl ?_
  refine r_iconst (v := 1) 2 dX6_isKing_1 rfl (by decide) ?_
  refine r_icmp_eq 10 5 dX6_isKing_2 (by decide) rfl (fun q2 => ?_) (fun q2 => ?_)
  · refine r_iconst (v := 1) 11 dX6_isKing_10 rfl (by decide) ?_
    refine r_goto 15 dX6_isKing_11 (by decide) ?_
    refine r_bret dX6_isKing_15 rfl (by first | exact Or.inl rfl | exact Or.inr rfl) (by decide) (by decide) ?_
    exact ⟨by simp_all [isKg, bI, i_nlt, i_nle], rfl⟩
  · refine r_iload_n 6 dX6_isKing_5 rfl rfl ?_
    refine r_iconst (v := 3) 7 dX6_isKing_6 rfl (by decide) ?_
    refine r_icmp_ne 14 10 dX6_isKing_7 (by decide) rfl (fun q7 => ?_) (fun q7 => ?_)
    · refine r_iconst (v := 0) 15 dX6_isKing_14 rfl (by decide) ?_
      refine r_bret dX6_isKing_15 rfl (by first | exact Or.inl rfl | exact Or.inr rfl) (by decide) (by decide) ?_
      exact ⟨by simp_all [isKg, bI, i_nlt, i_nle], rfl⟩
    · refine r_iconst (v := 1) 11 dX6_isKing_10 rfl (by decide) ?_
      refine r_goto 15 dX6_isKing_11 (by decide) ?_
      refine r_bret dX6_isKing_15 rfl (by first | exact Or.inl rfl | exact Or.inr rfl) (by decide) (by decide) ?_
      exact ⟨by simp_all [isKg, bI, i_nlt, i_nle], rfl⟩

set_option maxRecDepth 100000 in
theorem tX6_sideOf {Γ : CT} {s : Int32} {w : PW}  : Cl Γ yX6_sideOf XX6_sideOf 0 0 0 [.int s] w (rI (sdO s) w) := by
  refine Cl.of (ls := [some (.int s)]) rfl (by decide +kernel) (fun h => by cases h) (Nat.le_of_ble_eq_true rfl) rfl ?_
  refine r_iload_n 1 dX6_sideOf_0 rfl rfl ?_
  refine r_if_eq 9 4 dX6_sideOf_1 (by decide) rfl (fun q1 => ?_) (fun q1 => ?_)
  · refine r_iconst (v := 0) 10 dX6_sideOf_9 rfl (by decide) ?_
    refine r_iret dX6_sideOf_10 rfl (by decide) (by decide) ?_
    exact ⟨by simp_all [sdO, bI, i_nlt, i_nle], rfl⟩
  · refine r_iload_n 5 dX6_sideOf_4 rfl rfl ?_
    refine r_iconst (v := 1) 6 dX6_sideOf_5 rfl (by decide) ?_
    refine r_icmp_ne 11 9 dX6_sideOf_6 (by decide) rfl (fun q6 => ?_) (fun q6 => ?_)
    · refine r_iload_n 12 dX6_sideOf_11 rfl rfl ?_
      refine r_iconst (v := 2) 13 dX6_sideOf_12 rfl (by decide) ?_
      refine r_icmp_eq 21 16 dX6_sideOf_13 (by decide) rfl (fun q13 => ?_) (fun q13 => ?_)
      · refine r_iconst (v := 1) 22 dX6_sideOf_21 rfl (by decide) ?_
        refine r_goto 27 dX6_sideOf_22 (by decide) ?_
        refine r_iret dX6_sideOf_27 rfl (by decide) (by decide) ?_
        exact ⟨by simp_all [sdO, bI, i_nlt, i_nle], rfl⟩
      · refine r_iload_n 17 dX6_sideOf_16 rfl rfl ?_
        refine r_iconst (v := 3) 18 dX6_sideOf_17 rfl (by decide) ?_
        refine r_icmp_ne 25 21 dX6_sideOf_18 (by decide) rfl (fun q18 => ?_) (fun q18 => ?_)
        · refine r_bipush (v := (-6)) 27 dX6_sideOf_25 rfl (by decide) ?_
          refine r_iret dX6_sideOf_27 rfl (by decide) (by decide) ?_
          exact ⟨by simp_all [sdO, bI, i_nlt, i_nle], rfl⟩
        · refine r_iconst (v := 1) 22 dX6_sideOf_21 rfl (by decide) ?_
          refine r_goto 27 dX6_sideOf_22 (by decide) ?_
          refine r_iret dX6_sideOf_27 rfl (by decide) (by decide) ?_
          exact ⟨by simp_all [sdO, bI, i_nlt, i_nle], rfl⟩
    · refine r_iconst (v := 0) 10 dX6_sideOf_9 rfl (by decide) ?_
      refine r_iret dX6_sideOf_10 rfl (by decide) (by decide) ?_
      exact ⟨by simp_all [sdO, bI, i_nlt, i_nle], rfl⟩

set_option maxRecDepth 100000 in
theorem tX6_kingOf {Γ : CT} {s : Int32} {w : PW}  : Cl Γ yX6_kingOf XX6_kingOf 0 0 0 [.int s] w (rI (if s = 0 then 1 else 3) w) := by
  refine Cl.of (ls := [some (.int s)]) rfl (by decide +kernel) (fun h => by cases h) (Nat.le_of_ble_eq_true rfl) rfl ?_
  refine r_iload_n 1 dX6_kingOf_0 rfl rfl ?_
  refine r_if_ne 8 4 dX6_kingOf_1 (by decide) rfl (fun q1 => ?_) (fun q1 => ?_)
  · refine r_iconst (v := 3) 9 dX6_kingOf_8 rfl (by decide) ?_
    refine r_iret dX6_kingOf_9 rfl (by decide) (by decide) ?_
    exact ⟨by simp_all [sdO, bI, i_nlt, i_nle], rfl⟩
  · refine r_iconst (v := 1) 5 dX6_kingOf_4 rfl (by decide) ?_
    refine r_goto 9 dX6_kingOf_5 (by decide) ?_
    refine r_iret dX6_kingOf_9 rfl (by decide) (by decide) ?_
    exact ⟨by simp_all [sdO, bI, i_nlt, i_nle], rfl⟩

set_option maxRecDepth 100000 in
theorem tX6_wonBy {Γ : CT} {s : Int32} {w : PW}  : Cl Γ yX6_wonBy XX6_wonBy 0 0 0 [.int s] w (rI (if s = 0 then 1 else 2) w) := by
  refine Cl.of (ls := [some (.int s)]) rfl (by decide +kernel) (fun h => by cases h) (Nat.le_of_ble_eq_true rfl) rfl ?_
  refine r_iload_n 1 dX6_wonBy_0 rfl rfl ?_
  refine r_if_ne 8 4 dX6_wonBy_1 (by decide) rfl (fun q1 => ?_) (fun q1 => ?_)
  · refine r_iconst (v := 2) 9 dX6_wonBy_8 rfl (by decide) ?_
    refine r_iret dX6_wonBy_9 rfl (by decide) (by decide) ?_
    exact ⟨by simp_all [sdO, bI, i_nlt, i_nle], rfl⟩
  · refine r_iconst (v := 1) 5 dX6_wonBy_4 rfl (by decide) ?_
    refine r_goto 9 dX6_wonBy_5 (by decide) ?_
    refine r_iret dX6_wonBy_9 rfl (by decide) (by decide) ?_
    exact ⟨by simp_all [sdO, bI, i_nlt, i_nle], rfl⟩

set_option maxRecDepth 100000 in
theorem tX6_oneIf {Γ : CT} {s : Int32} {w : PW}  : Cl Γ yX6_oneIf XX6_oneIf 0 0 0 [.int s] w (rI (if s = 0 then 0 else 1) w) := by
  refine Cl.of (ls := [some (.int s)]) rfl (by decide +kernel) (fun h => by cases h) (Nat.le_of_ble_eq_true rfl) rfl ?_
  refine r_iload_n 1 dX6_oneIf_0 rfl rfl ?_
  refine r_if_eq 8 4 dX6_oneIf_1 (by decide) rfl (fun q1 => ?_) (fun q1 => ?_)
  · refine r_iconst (v := 0) 9 dX6_oneIf_8 rfl (by decide) ?_
    refine r_iret dX6_oneIf_9 rfl (by decide) (by decide) ?_
    exact ⟨by simp_all [sdO, bI, i_nlt, i_nle], rfl⟩
  · refine r_iconst (v := 1) 5 dX6_oneIf_4 rfl (by decide) ?_
    refine r_goto 9 dX6_oneIf_5 (by decide) ?_
    refine r_iret dX6_oneIf_9 rfl (by decide) (by decide) ?_
    exact ⟨by simp_all [sdO, bI, i_nlt, i_nle], rfl⟩

set_option maxRecDepth 100000 in
theorem tX6_mayGo {Γ : CT} {s : Int32} {t : Int32} {w : PW}  : Cl Γ yX6_mayGo XX6_mayGo 0 0 0 [.int s, .int t] w (rI (bI (mayG s t)) w) := by
  refine Cl.of (ls := [some (.int s), some (.int t)]) rfl (by decide +kernel) (fun h => by cases h) (Nat.le_of_ble_eq_true rfl) rfl ?_
  refine r_iload_n 1 dX6_mayGo_0 rfl rfl ?_
  refine r_if_ne 15 4 dX6_mayGo_1 (by decide) rfl (fun q1 => ?_) (fun q1 => ?_)
  · refine r_iload_n 16 dX6_mayGo_15 rfl rfl ?_
    refine r_iconst (v := 2) 17 dX6_mayGo_16 rfl (by decide) ?_
    refine r_icmp_ne 33 20 dX6_mayGo_17 (by decide) rfl (fun q17 => ?_) (fun q17 => ?_)
    · refine r_iload_n 34 dX6_mayGo_33 rfl rfl ?_
      refine r_bipush (v := (-6)) 36 dX6_mayGo_34 rfl (by decide) ?_
      refine r_icmp_eq 43 39 dX6_mayGo_36 (by decide) rfl (fun q36 => ?_) (fun q36 => ?_)
      · refine r_iconst (v := 0) 44 dX6_mayGo_43 rfl (by decide) ?_
        refine r_bret dX6_mayGo_44 rfl (by first | exact Or.inl rfl | exact Or.inr rfl) (by decide) (by decide) ?_
        exact ⟨by simp_all [mayG, bI, i_nlt, i_nle], rfl⟩
      · refine r_iconst (v := 1) 40 dX6_mayGo_39 rfl (by decide) ?_
        refine r_goto 44 dX6_mayGo_40 (by decide) ?_
        refine r_bret dX6_mayGo_44 rfl (by first | exact Or.inl rfl | exact Or.inr rfl) (by decide) (by decide) ?_
        exact ⟨by simp_all [mayG, bI, i_nlt, i_nle], rfl⟩
    · refine r_iload_n 21 dX6_mayGo_20 rfl rfl ?_
      refine r_iconst (v := 2) 22 dX6_mayGo_21 rfl (by decide) ?_
      refine r_icmp_lt 29 25 dX6_mayGo_22 (by decide) rfl (fun q22 => ?_) (fun q22 => ?_)
      · refine r_iconst (v := 0) 30 dX6_mayGo_29 rfl (by decide) ?_
        refine r_goto 44 dX6_mayGo_30 (by decide) ?_
        refine r_bret dX6_mayGo_44 rfl (by first | exact Or.inl rfl | exact Or.inr rfl) (by decide) (by decide) ?_
        exact ⟨by simp_all [mayG, bI, i_nlt, i_nle], rfl⟩
      · refine r_iconst (v := 1) 26 dX6_mayGo_25 rfl (by decide) ?_
        refine r_goto 44 dX6_mayGo_26 (by decide) ?_
        refine r_bret dX6_mayGo_44 rfl (by first | exact Or.inl rfl | exact Or.inr rfl) (by decide) (by decide) ?_
        exact ⟨by simp_all [mayG, bI, i_nlt, i_nle], rfl⟩
  · refine r_iload_n 5 dX6_mayGo_4 rfl rfl ?_
    refine r_iconst (v := 2) 6 dX6_mayGo_5 rfl (by decide) ?_
    refine r_icmp_ge 13 9 dX6_mayGo_6 (by decide) rfl (fun q6 => ?_) (fun q6 => ?_)
    · refine r_iconst (v := 0) 14 dX6_mayGo_13 rfl (by decide) ?_
      refine r_bret dX6_mayGo_14 rfl (by first | exact Or.inl rfl | exact Or.inr rfl) (by decide) (by decide) ?_
      exact ⟨by simp_all [mayG, bI, i_nlt, i_nle], rfl⟩
    · refine r_iconst (v := 1) 10 dX6_mayGo_9 rfl (by decide) ?_
      refine r_goto 14 dX6_mayGo_10 (by decide) ?_
      refine r_bret dX6_mayGo_14 rfl (by first | exact Or.inl rfl | exact Or.inr rfl) (by decide) (by decide) ?_
      exact ⟨by simp_all [mayG, bI, i_nlt, i_nle], rfl⟩

set_option maxRecDepth 100000 in
theorem tX6_rowOf {Γ : CT} {s : Int32} {w : PW}  : Cl Γ yX6_rowOf XX6_rowOf 0 0 0 [.int s] w (rI (s / 6) w) := by
  refine Cl.of (ls := [some (.int s)]) rfl (by decide +kernel) (fun h => by cases h) (Nat.le_of_ble_eq_true rfl) rfl ?_
  refine r_iload_n 1 dX6_rowOf_0 rfl rfl ?_
  refine r_bipush (v := 6) 3 dX6_rowOf_1 rfl (by decide) ?_
  refine r_idiv 4 dX6_rowOf_3 rfl (by decide) ?_
  refine r_iret dX6_rowOf_4 rfl (by decide) (by decide) ?_
  exact ⟨rfl, rfl⟩

set_option maxRecDepth 100000 in
theorem tX6_columnOf {Γ : CT} {s : Int32} {w : PW}  : Cl Γ yX6_columnOf XX6_columnOf 0 0 0 [.int s] w (rI ((s - s / 6 * 6) * 2 + (s / 6 - s / 6 / 2 * 2)) w) := by
  refine Cl.of (ls := [some (.int s)]) rfl (by decide +kernel) (fun h => by cases h) (Nat.le_of_ble_eq_true rfl) rfl ?_
  refine r_iload_n 1 dX6_columnOf_0 rfl rfl ?_
  refine r_bipush (v := 6) 3 dX6_columnOf_1 rfl (by decide) ?_
  refine r_irem 4 dX6_columnOf_3 rfl (by decide) ?_
  refine r_iconst (v := 2) 5 dX6_columnOf_4 rfl (by decide) ?_
  refine r_imul 6 dX6_columnOf_5 rfl ?_
  refine r_iload_n 7 dX6_columnOf_6 rfl rfl ?_
  refine r_bipush (v := 6) 9 dX6_columnOf_7 rfl (by decide) ?_
  refine r_idiv 10 dX6_columnOf_9 rfl (by decide) ?_
  refine r_iconst (v := 2) 11 dX6_columnOf_10 rfl (by decide) ?_
  refine r_irem 12 dX6_columnOf_11 rfl (by decide) ?_
  refine r_iadd 13 dX6_columnOf_12 rfl ?_
  refine r_iret dX6_columnOf_13 rfl (by decide) (by decide) ?_
  exact ⟨rfl, rfl⟩


set_option maxRecDepth 100000 in
theorem tJ9_floorMod {Γ : CT} {a b : Int32} {w : PW} (hb : ¬ b = 0) : Cl Γ yJ9_floorMod_7cf53 XJ9_floorMod_7cf53 0 0 0 [.int a, .int b] w (rI (fmO a b) w) := by
  refine Cl.of (ls := [some (.int a), some (.int b), none]) rfl (by decide +kernel) (fun h => by cases h) (Nat.le_of_ble_eq_true rfl) rfl ?_
  refine r_iload_n 1 dJ9_floorMod_7cf53_0 rfl rfl ?_
  refine r_iload_n 2 dJ9_floorMod_7cf53_1 rfl rfl ?_
  refine r_irem 3 dJ9_floorMod_7cf53_2 rfl hb ?_
  refine r_istore_n (ls1 := [_, _, _]) 4 dJ9_floorMod_7cf53_3 rfl (by decide) rfl rfl ?_
  refine r_iload_n 5 dJ9_floorMod_7cf53_4 rfl rfl ?_
  refine r_iload_n 6 dJ9_floorMod_7cf53_5 rfl rfl ?_
  refine r_ixor 7 dJ9_floorMod_7cf53_6 rfl ?_
  refine r_if_ge 18 10 dJ9_floorMod_7cf53_7 (by decide) rfl (fun q7 => ?_) (fun q7 => ?_)
  · refine r_iload_n 19 dJ9_floorMod_7cf53_18 rfl rfl ?_
    refine r_iret dJ9_floorMod_7cf53_19 rfl (by decide) (by decide) ?_
    exact ⟨by simp_all [fmO], rfl⟩
  · refine r_iload_n 11 dJ9_floorMod_7cf53_10 rfl rfl ?_
    refine r_if_eq 18 14 dJ9_floorMod_7cf53_11 (by decide) rfl (fun q11 => ?_) (fun q11 => ?_)
    · refine r_iload_n 19 dJ9_floorMod_7cf53_18 rfl rfl ?_
      refine r_iret dJ9_floorMod_7cf53_19 rfl (by decide) (by decide) ?_
      exact ⟨by simp_all [fmO], rfl⟩
    · refine r_iload_n 15 dJ9_floorMod_7cf53_14 rfl rfl ?_
      refine r_iload_n 16 dJ9_floorMod_7cf53_15 rfl rfl ?_
      refine r_iadd 17 dJ9_floorMod_7cf53_16 rfl ?_
      refine r_iret dJ9_floorMod_7cf53_17 rfl (by decide) (by decide) ?_
      exact ⟨by simp_all [fmO], rfl⟩

set_option maxRecDepth 100000 in
theorem tJ9_max {Γ : CT} {a : Int32} {b : Int32} {w : PW}  : Cl Γ yJ9_max_7cf53 XJ9_max_7cf53 0 0 0 [.int a, .int b] w (rI (if a < b then b else a) w) := by
  refine Cl.of (ls := [some (.int a), some (.int b)]) rfl (by decide +kernel) (fun h => by cases h) (Nat.le_of_ble_eq_true rfl) rfl ?_
  refine r_iload_n 1 dJ9_max_7cf53_0 rfl rfl ?_
  refine r_iload_n 2 dJ9_max_7cf53_1 rfl rfl ?_
  refine r_icmp_lt 9 5 dJ9_max_7cf53_2 (by decide) rfl (fun q2 => ?_) (fun q2 => ?_)
  · refine r_iload_n 10 dJ9_max_7cf53_9 rfl rfl ?_
    refine r_iret dJ9_max_7cf53_10 rfl (by decide) (by decide) ?_
    exact ⟨by first | rw [if_pos q2] | rw [if_neg q2], rfl⟩
  · refine r_iload_n 6 dJ9_max_7cf53_5 rfl rfl ?_
    refine r_goto 10 dJ9_max_7cf53_6 (by decide) ?_
    refine r_iret dJ9_max_7cf53_10 rfl (by decide) (by decide) ?_
    exact ⟨by first | rw [if_pos q2] | rw [if_neg q2], rfl⟩

set_option maxRecDepth 100000 in
theorem tJ9_min {Γ : CT} {a : Int32} {b : Int32} {w : PW}  : Cl Γ yJ9_min_7cf53 XJ9_min_7cf53 0 0 0 [.int a, .int b] w (rI (if b < a then b else a) w) := by
  refine Cl.of (ls := [some (.int a), some (.int b)]) rfl (by decide +kernel) (fun h => by cases h) (Nat.le_of_ble_eq_true rfl) rfl ?_
  refine r_iload_n 1 dJ9_min_7cf53_0 rfl rfl ?_
  refine r_iload_n 2 dJ9_min_7cf53_1 rfl rfl ?_
  refine r_icmp_gt 9 5 dJ9_min_7cf53_2 (by decide) rfl (fun q2 => ?_) (fun q2 => ?_)
  · refine r_iload_n 10 dJ9_min_7cf53_9 rfl rfl ?_
    refine r_iret dJ9_min_7cf53_10 rfl (by decide) (by decide) ?_
    exact ⟨by first | rw [if_pos q2] | rw [if_neg q2], rfl⟩
  · refine r_iload_n 6 dJ9_min_7cf53_5 rfl rfl ?_
    refine r_goto 10 dJ9_min_7cf53_6 (by decide) ?_
    refine r_iret dJ9_min_7cf53_10 rfl (by decide) (by decide) ?_
    exact ⟨by first | rw [if_pos q2] | rw [if_neg q2], rfl⟩

set_option maxRecDepth 100000 in
theorem tX7_in {Γ : CT} {s : Int32} {a : Int32} {b : Int32} {w : PW}  : Cl Γ yX7_in XX7_in 0 0 0 [.int s, .int a, .int b] w (rI (bI (inI s a b)) w) := by
  refine Cl.of (ls := [some (.int s), some (.int a), some (.int b)]) rfl (by decide +kernel) (fun h => by cases h) (Nat.le_of_ble_eq_true rfl) rfl ?_
  refine r_iload_n 1 dX7_in_0 rfl rfl ?_
  refine r_iload_n 2 dX7_in_1 rfl rfl ?_
  refine r_icmp_lt 14 5 dX7_in_2 (by decide) rfl (fun q2 => ?_) (fun q2 => ?_)
  · refine r_iconst (v := 0) 15 dX7_in_14 rfl (by decide) ?_
    refine r_bret dX7_in_15 rfl (by first | exact Or.inl rfl | exact Or.inr rfl) (by decide) (by decide) ?_
    first | exact ⟨congrArg (fun z => some (Value.int z)) (bI_of (by simp only [Int32.lt_iff_toInt_lt, Int32.le_iff_toInt_le, ← Int32.toInt_inj] at *; simp at *; omega)).symm, rfl⟩ | exact ⟨congrArg (fun z => some (Value.int z)) (bI_no (by simp only [Int32.lt_iff_toInt_lt, Int32.le_iff_toInt_le, ← Int32.toInt_inj] at *; simp at *; omega)).symm, rfl⟩
  · refine r_iload_n 6 dX7_in_5 rfl rfl ?_
    refine r_iload_n 7 dX7_in_6 rfl rfl ?_
    refine r_icmp_gt 14 10 dX7_in_7 (by decide) rfl (fun q7 => ?_) (fun q7 => ?_)
    · refine r_iconst (v := 0) 15 dX7_in_14 rfl (by decide) ?_
      refine r_bret dX7_in_15 rfl (by first | exact Or.inl rfl | exact Or.inr rfl) (by decide) (by decide) ?_
      first | exact ⟨congrArg (fun z => some (Value.int z)) (bI_of (by simp only [Int32.lt_iff_toInt_lt, Int32.le_iff_toInt_le, ← Int32.toInt_inj] at *; simp at *; omega)).symm, rfl⟩ | exact ⟨congrArg (fun z => some (Value.int z)) (bI_no (by simp only [Int32.lt_iff_toInt_lt, Int32.le_iff_toInt_le, ← Int32.toInt_inj] at *; simp at *; omega)).symm, rfl⟩
    · refine r_iconst (v := 1) 11 dX7_in_10 rfl (by decide) ?_
      refine r_goto 15 dX7_in_11 (by decide) ?_
      refine r_bret dX7_in_15 rfl (by first | exact Or.inl rfl | exact Or.inr rfl) (by decide) (by decide) ?_
      first | exact ⟨congrArg (fun z => some (Value.int z)) (bI_of (by simp only [Int32.lt_iff_toInt_lt, Int32.le_iff_toInt_le, ← Int32.toInt_inj] at *; simp at *; omega)).symm, rfl⟩ | exact ⟨congrArg (fun z => some (Value.int z)) (bI_no (by simp only [Int32.lt_iff_toInt_lt, Int32.le_iff_toInt_le, ← Int32.toInt_inj] at *; simp at *; omega)).symm, rfl⟩

set_option maxRecDepth 100000 in
theorem tX7_isSquare {Γ : CT} {s : Int32} {w : PW}  : Cl Γ yX7_isSquare XX7_isSquare 1 0 0 [.int s] w (rI (bI (inI s 0 47)) w) := by
  refine Cl.of (ls := [some (.int s)]) rfl (by decide +kernel) (fun h => by cases h) (Nat.le_of_ble_eq_true rfl) rfl ?_
  refine r_iload_n 1 dX7_isSquare_0 rfl rfl ?_
  refine r_iconst (v := 0) 2 dX7_isSquare_1 rfl (by decide) ?_
  refine r_bipush (v := 47) 4 dX7_isSquare_2 rfl (by decide) ?_
  refine r_callS0 7 dX7_isSquare_4 rfl (tX7_in) l_X7_61 mX7_in rfl (by decide) (Nat.le_of_ble_eq_true rfl) (by decide) (qI ?_)
  refine r_bret dX7_isSquare_7 rfl (bI01 _) (by decide) (by decide) ?_
  exact ⟨rfl, rfl⟩

set_option maxRecDepth 100000 in
theorem tX7_rowOf {Γ : CT} {s : Int32} {w : PW}  : Cl Γ yX7_rowOf XX7_rowOf 0 0 0 [.int s] w (rI (s / 6) w) := by
  refine Cl.of (ls := [some (.int s)]) rfl (by decide +kernel) (fun h => by cases h) (Nat.le_of_ble_eq_true rfl) rfl ?_
  refine r_iload_n 1 dX7_rowOf_0 rfl rfl ?_
  refine r_bipush (v := 6) 3 dX7_rowOf_1 rfl (by decide) ?_
  refine r_idiv 4 dX7_rowOf_3 rfl (by decide) ?_
  refine r_iret dX7_rowOf_4 rfl (by decide) (by decide) ?_
  exact ⟨rfl, rfl⟩

set_option maxRecDepth 100000 in
theorem tX7_columnOf {Γ : CT} {s : Int32} {w : PW}  : Cl Γ yX7_columnOf XX7_columnOf 0 0 0 [.int s] w (rI ((s - s / 6 * 6) * 2 + (s / 6 - s / 6 / 2 * 2)) w) := by
  refine Cl.of (ls := [some (.int s)]) rfl (by decide +kernel) (fun h => by cases h) (Nat.le_of_ble_eq_true rfl) rfl ?_
  refine r_iload_n 1 dX7_columnOf_0 rfl rfl ?_
  refine r_bipush (v := 6) 3 dX7_columnOf_1 rfl (by decide) ?_
  refine r_irem 4 dX7_columnOf_3 rfl (by decide) ?_
  refine r_iconst (v := 2) 5 dX7_columnOf_4 rfl (by decide) ?_
  refine r_imul 6 dX7_columnOf_5 rfl ?_
  refine r_iload_n 7 dX7_columnOf_6 rfl rfl ?_
  refine r_bipush (v := 6) 9 dX7_columnOf_7 rfl (by decide) ?_
  refine r_idiv 10 dX7_columnOf_9 rfl (by decide) ?_
  refine r_iconst (v := 2) 11 dX7_columnOf_10 rfl (by decide) ?_
  refine r_irem 12 dX7_columnOf_11 rfl (by decide) ?_
  refine r_iadd 13 dX7_columnOf_12 rfl ?_
  refine r_iret dX7_columnOf_13 rfl (by decide) (by decide) ?_
  exact ⟨rfl, rfl⟩

set_option maxRecDepth 100000 in
theorem tX7_isKing {Γ : CT} {s : Int32} {w : PW}  : Cl Γ yX7_isKing XX7_isKing 0 0 0 [.int s] w (rI (bI (isKg s)) w) := by
  refine Cl.of (ls := [some (.int s)]) rfl (by decide +kernel) (fun h => by cases h) (Nat.le_of_ble_eq_true rfl) rfl ?_
  refine r_iload_n 1 dX7_isKing_0 rfl rfl ?_
  refine r_iconst (v := 1) 2 dX7_isKing_1 rfl (by decide) ?_
  refine r_icmp_eq 10 5 dX7_isKing_2 (by decide) rfl (fun q2 => ?_) (fun q2 => ?_)
  · refine r_iconst (v := 1) 11 dX7_isKing_10 rfl (by decide) ?_
    refine r_goto 15 dX7_isKing_11 (by decide) ?_
    refine r_bret dX7_isKing_15 rfl (by first | exact Or.inl rfl | exact Or.inr rfl) (by decide) (by decide) ?_
    exact ⟨by simp_all [isKg, bI, i_nlt, i_nle], rfl⟩
  · refine r_iload_n 6 dX7_isKing_5 rfl rfl ?_
    refine r_iconst (v := 3) 7 dX7_isKing_6 rfl (by decide) ?_
    refine r_icmp_ne 14 10 dX7_isKing_7 (by decide) rfl (fun q7 => ?_) (fun q7 => ?_)
    · refine r_iconst (v := 0) 15 dX7_isKing_14 rfl (by decide) ?_
      refine r_bret dX7_isKing_15 rfl (by first | exact Or.inl rfl | exact Or.inr rfl) (by decide) (by decide) ?_
      exact ⟨by simp_all [isKg, bI, i_nlt, i_nle], rfl⟩
    · refine r_iconst (v := 1) 11 dX7_isKing_10 rfl (by decide) ?_
      refine r_goto 15 dX7_isKing_11 (by decide) ?_
      refine r_bret dX7_isKing_15 rfl (by first | exact Or.inl rfl | exact Or.inr rfl) (by decide) (by decide) ?_
      exact ⟨by simp_all [isKg, bI, i_nlt, i_nle], rfl⟩

set_option maxRecDepth 100000 in
theorem tX7_sideOf {Γ : CT} {s : Int32} {w : PW}  : Cl Γ yX7_sideOf XX7_sideOf 0 0 0 [.int s] w (rI (if s = -6 then -6 else s / 2) w) := by
  refine Cl.of (ls := [some (.int s)]) rfl (by decide +kernel) (fun h => by cases h) (Nat.le_of_ble_eq_true rfl) rfl ?_
  refine r_iload_n 1 dX7_sideOf_0 rfl rfl ?_
  refine r_bipush (v := (-6)) 3 dX7_sideOf_1 rfl (by decide) ?_
  refine r_icmp_ne 11 6 dX7_sideOf_3 (by decide) rfl (fun q3 => ?_) (fun q3 => ?_)
  · refine r_iload_n 12 dX7_sideOf_11 rfl rfl ?_
    refine r_iconst (v := 2) 13 dX7_sideOf_12 rfl (by decide) ?_
    refine r_idiv 14 dX7_sideOf_13 rfl (by decide) ?_
    refine r_iret dX7_sideOf_14 rfl (by decide) (by decide) ?_
    exact ⟨by simp_all [sdO, bI, i_nlt, i_nle], rfl⟩
  · refine r_bipush (v := (-6)) 8 dX7_sideOf_6 rfl (by decide) ?_
    refine r_goto 14 dX7_sideOf_8 (by decide) ?_
    refine r_iret dX7_sideOf_14 rfl (by decide) (by decide) ?_
    exact ⟨by simp_all [sdO, bI, i_nlt, i_nle], rfl⟩

