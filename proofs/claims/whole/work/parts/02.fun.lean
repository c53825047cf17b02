/-! The state's words for the class (gW) and for the reference (mW), functions that may have no answer, rows for calls. -/
abbrev fg_A : Type := Nat → Int32
def fg_ob {α β : Type} (x : Option α) (k : α → Option β) : Option β := match x with
  | none => none
  | some a => k a
theorem fg_ob_some {α β : Type} {x : Option α} {k : α → Option β} {b : β} (h : fg_ob x k = some b) : ∃ a, x = some a ∧ k a = some b := by
  cases x with
  | none => exact absurd (show none = some b from h) (by simp)
  | some a => exact ⟨a, rfl, h⟩
def fg_og {β : Type} (c : Bool) (x : Option β) : Option β := match c with
  | true => x
  | false => none
theorem fg_og_some {β : Type} {c : Bool} {x : Option β} {b : β} (h : fg_og c x = some b) : c = true ∧ x = some b := by
  cases c with
  | false => exact absurd (show none = some b from h) (by simp)
  | true => exact ⟨rfl, h⟩
def fg_ot {β : Type} (x y : Option β) : Option β := match x with
  | some a => some a
  | none => y
theorem fg_ot_some {β : Type} {x y : Option β} {b : β} (h : fg_ot x y = some b) : x = some b ∨ (x = none ∧ y = some b) := by
  cases x with
  | none => exact Or.inr ⟨rfl, h⟩
  | some a => exact Or.inl h
def ix (i : Int32) (n : Nat) : Bool := decide (0 ≤ i) && decide (i.toNatClampNeg < n)
theorem ix_in {i : Int32} {n : Nat} (h : ix i n = true) : vp_in i n := by
  unfold ix at h
  rw [Bool.and_eq_true, decide_eq_true_eq, decide_eq_true_eq] at h
  rintro (q | q)
  · exact absurd h.1 (by rw [Int32.le_iff_toInt_le]; rw [Int32.lt_iff_toInt_lt] at q; omega)
  · omega
theorem ix_nI {i n : Nat} (h : i < n) (hn : n < 2 ^ 31) : ix (nI i) n = true := by
  unfold ix
  rw [Bool.and_eq_true, decide_eq_true_eq, decide_eq_true_eq, nI_clamp (by omega)]
  exact ⟨nI_pos' (by omega), h⟩
def nb (x : Int32) : Bool := decide (x = 0) || decide (x = 1)
theorem nb_narrow {x : Int32} (h : nb x = true) : narrow .boolean (.int x) = .int x := by
  unfold nb at h
  rw [Bool.or_eq_true, decide_eq_true_eq, decide_eq_true_eq] at h
  rcases h with rfl | rfl <;> decide
def fu : Nat := 1000
