/-! ===== squares, ways, steps ===== -/
def nx (s way : Nat) : Nat := ((s / 6 + (if way < 2 then 1 else 7)) % 8) * 6 + ((s % 6 * 2 + s / 6 % 2 + (if way % 2 = 0 then 1 else 11)) % 12) / 2
def nk (s way : Nat) : Nat → Nat
  | 0 => s
  | k + 1 => nx (nk s way k) way
theorem all2 {A B : Nat} {P : Nat → Nat → Bool} (h : (List.range A).all (fun a => (List.range B).all (fun b => P a b)) = true) {a b : Nat} (ha : a < A) (hb : b < B) : P a b = true := by
  have h1 := List.all_eq_true.mp h a (List.mem_range.mpr ha)
  exact List.all_eq_true.mp h1 b (List.mem_range.mpr hb)
theorem all3 {A B C : Nat} {P : Nat → Nat → Nat → Bool} (h : (List.range A).all (fun a => (List.range B).all (fun b => (List.range C).all (fun c => P a b c))) = true) {a b c : Nat} (ha : a < A) (hb : b < B) (hc : c < C) : P a b c = true := by
  have h1 := List.all_eq_true.mp h a (List.mem_range.mpr ha)
  have h2 := List.all_eq_true.mp h1 b (List.mem_range.mpr hb)
  exact List.all_eq_true.mp h2 c (List.mem_range.mpr hc)
theorem nx_lt (s way : Nat) : nx s way < 48 := by
  unfold nx
  have h1 : (s / 6 + (if way < 2 then 1 else 7)) % 8 < 8 := Nat.mod_lt _ (by decide)
  have h2 : (s % 6 * 2 + s / 6 % 2 + (if way % 2 = 0 then 1 else 11)) % 12 < 12 := Nat.mod_lt _ (by decide)
  omega
theorem nk_lt {s way k : Nat} (h : s < 48) : nk s way k < 48 := by
  cases k with
  | zero => exact h
  | succ k => exact nx_lt _ _
theorem nx_back {s way : Nat} (hs : s < 48) (hw : way < 4) : nx (nx s way) (3 - way) = s := of_decide_eq_true (all2 (A := 48) (B := 4) (P := fun s way => decide (nx (nx s way) (3 - way) = s)) (by decide +kernel) hs hw)
theorem nk_lap {s way : Nat} (hs : s < 48) (hw : way < 4) : nk s way 24 = s := of_decide_eq_true (all2 (A := 48) (B := 4) (P := fun s way => decide (nk s way 24 = s)) (by decide +kernel) hs hw)
theorem nk_ne {s way k : Nat} (hs : s < 48) (hw : way < 4) (h0 : 0 < k) (hk : k < 24) : nk s way k ≠ s := by
  have := of_decide_eq_true (all3 (A := 48) (B := 4) (C := 24) (P := fun s way k => decide (0 < k → nk s way k ≠ s)) (by decide +kernel) hs hw hk)
  exact this h0
theorem nk_add (s way j : Nat) : ∀ k, nk (nk s way j) way k = nk s way (j + k)
  | 0 => rfl
  | k + 1 => by
    show nx (nk (nk s way j) way k) way = nx (nk s way (j + k)) way
    rw [nk_add s way j k]
theorem nx_inj {s t way : Nat} (hs : s < 48) (ht : t < 48) (hw : way < 4) (h : nx s way = nx t way) : s = t := by
  rw [← nx_back hs hw, ← nx_back ht hw, h]
theorem nk_inj {way : Nat} (hw : way < 4) : ∀ (k : Nat) {s t : Nat}, s < 48 → t < 48 → nk s way k = nk t way k → s = t
  | 0, _, _, _, _, h => h
  | k + 1, _, _, hs, ht, h => nk_inj hw k hs ht (nx_inj (nk_lt hs) (nk_lt ht) hw h)
/-- the column, the row, a step, in the machine's numbers -/
def colI (s : Int32) : Int32 := (s - s / 6 * 6) * 2 + (s / 6 - s / 6 / 2 * 2)
def sqI (s way k : Int32) : Int32 := fmO (s / 6 + (if way < 2 then k else -k)) 8 * 6 + fmO (colI s + (if way - way / 2 * 2 = 0 then k else -k)) 12 / 2
theorem sqI_nk {s way k : Nat} (hs : s < 48) (hw : way < 4) (hk : k < 24) : sqI (nI s) (nI way) (nI k) = nI (nk s way k) := of_decide_eq_true (all3 (A := 48) (B := 4) (C := 24) (P := fun s way k => decide (sqI (nI s) (nI way) (nI k) = nI (nk s way k))) (by decide +kernel) hs hw hk)
def nxI (s way : Int32) : Int32 := 6 * ((s / 6 + (if way < 2 then 1 else 7)) - (s / 6 + (if way < 2 then 1 else 7)) / 8 * 8) + ((colI s + (if way - way / 2 * 2 = 0 then 1 else 11)) - (colI s + (if way - way / 2 * 2 = 0 then 1 else 11)) / 12 * 12) / 2
theorem nxI_nx {s way : Nat} (hs : s < 48) (hw : way < 4) : nxI (nI s) (nI way) = nI (nx s way) := of_decide_eq_true (all2 (A := 48) (B := 4) (P := fun s way => decide (nxI (nI s) (nI way) = nI (nx s way))) (by decide +kernel) hs hw)
theorem colI_col {s : Nat} (hs : s < 48) : colI (nI s) = nI (s % 6 * 2 + s / 6 % 2) := of_decide_eq_true (all2 (A := 48) (B := 1) (P := fun s _ => decide (colI (nI s) = nI (s % 6 * 2 + s / 6 % 2))) (by decide +kernel) hs (by decide : 0 < 1))
/-- a frame: the cells outside S are as they were -/
def Fr (w w' : PW) (S : Nat → Prop) : Prop := w'.length = w.length ∧ ∀ h, ¬ S h → w'[h]? = w[h]?
theorem Fr.rf {w : PW} {S : Nat → Prop} : Fr w w S := ⟨rfl, fun _ _ => rfl⟩
theorem Fr.tr {w w1 w2 : PW} {S : Nat → Prop} (h1 : Fr w w1 S) (h2 : Fr w1 w2 S) : Fr w w2 S := ⟨h2.1.trans h1.1, fun h hn => (h2.2 h hn).trans (h1.2 h hn)⟩
theorem Fr.mono {w w1 : PW} {S S' : Nat → Prop} (h1 : Fr w w1 S) (h : ∀ q, S q → S' q) : Fr w w1 S' := ⟨h1.1, fun q hn => h1.2 q (fun z => hn (h q z))⟩
theorem Fr.st {w : PW} {S : Nat → Prop} {h : Nat} {c : PC} (hS : S h) : Fr w (w.set h c) S := ⟨List.length_set, fun q hn => List.getElem?_set_ne (fun e => hn (by subst e; exact hS))⟩
theorem Fr.at {w w1 : PW} {S : Nat → Prop} {h : Nat} {c : PC} (hF : Fr w w1 S) (hn : ¬ S h) (hw : w[h]? = some c) : w1[h]? = some c := (hF.2 h hn).trans hw
