/-! Ways over the rules that may be used (ok), and their lengths: no machine here. -/
section WY
variable (N : Nat) (b e : Nat → Nat) (ok : Nat → Bool)
/-- a way of d rules from x to y -/
def wk : Nat → Nat → Nat → Prop
  | 0, x, y => x = y
  | d + 1, x, y => ∃ r, r < N ∧ ok r = true ∧ b r = x ∧ wk d (e r) y
/-- d is the length of the least way from x to y -/
def wd (y d x : Nat) : Prop := wk N b e ok d x y ∧ ∀ i, i < d → ¬ wk N b e ok i x y
variable {N b e ok}
theorem wk_snoc : ∀ {d x y r : Nat}, wk N b e ok d x y → r < N → ok r = true → b r = y → wk N b e ok (d + 1) x (e r)
  | 0, x, y, r, h, h1, h2, h3 => ⟨r, h1, h2, h3.trans (show x = y from h).symm, rfl⟩
  | d + 1, x, y, r, ⟨q, a1, a2, a3, a4⟩, h1, h2, h3 => ⟨q, a1, a2, a3, wk_snoc a4 h1 h2 h3⟩
theorem wk_fwd {T : Nat → Bool} (hT : ∀ r, r < N → ok r = true → T (b r) = true → T (e r) = true) : ∀ {d x y : Nat}, wk N b e ok d x y → T x = true → T y = true
  | 0, x, y, h, hx => by rw [← (show x = y from h)]; exact hx
  | d + 1, x, y, ⟨r, h1, h2, h3, h4⟩, hx => wk_fwd hT h4 (hT r h1 h2 (by rw [h3]; exact hx))
theorem wk_bwd {T : Nat → Bool} (hT : ∀ r, r < N → ok r = true → T (e r) = true → T (b r) = true) : ∀ {d x y : Nat}, wk N b e ok d x y → T y = true → T x = true
  | 0, x, y, h, hx => by rw [(show x = y from h)]; exact hx
  | d + 1, x, y, ⟨r, h1, h2, h3, h4⟩, hx => by rw [← h3]; exact hT r h1 h2 (wk_bwd hT h4 hx)
theorem wk_app : ∀ {d i x y z : Nat}, wk N b e ok d x y → wk N b e ok i y z → wk N b e ok (d + i) x z
  | 0, i, x, y, z, h, h2 => by rw [Nat.zero_add, (show x = y from h)]; exact h2
  | d + 1, i, x, y, z, ⟨r, h1, h2, h3, h4⟩, k => by
    rw [Nat.succ_add]
    exact ⟨r, h1, h2, h3, wk_app h4 k⟩
theorem wk_rev : ∀ {d x y : Nat}, wk N b e ok d x y → wk N e b ok d y x
  | 0, x, y, h => (show x = y from h).symm
  | d + 1, x, y, ⟨r, h1, h2, h3, h4⟩ => by
    have := wk_snoc (wk_rev h4) h1 h2 rfl
    rw [h3] at this; exact this
theorem wk_congr {ok2 : Nat → Bool} : ∀ {d x y : Nat}, (∀ r, r < N → ok r = true → ok2 r = true) → wk N b e ok d x y → wk N b e ok2 d x y
  | 0, x, y, _, h => h
  | d + 1, x, y, H, ⟨r, h1, h2, h3, h4⟩ => ⟨r, h1, H r h1 h2, h3, wk_congr H h4⟩
theorem wd_unique {y d i x : Nat} (h1 : wd N b e ok y d x) (h2 : wd N b e ok y i x) : d = i := by
  rcases Nat.lt_trichotomy d i with q | q | q
  · exact absurd h1.1 (h2.2 d q)
  · exact q
  · exact absurd h2.1 (h1.2 i q)
/-- of a way there is a least one -/
theorem wd_of {y x : Nat} : ∀ {d : Nat}, wk N b e ok d x y → ∃ i, i ≤ d ∧ wd N b e ok y i x := by
  intro d
  induction d using Nat.strongRecOn with
  | _ d ih =>
    intro h
    by_cases q : ∃ i, i < d ∧ wk N b e ok i x y
    · obtain ⟨i, hi, hw⟩ := q
      obtain ⟨j, hj, hd⟩ := ih i hi hw
      exact ⟨j, by omega, hd⟩
    · exact ⟨d, Nat.le_refl d, h, fun i hi hw => q ⟨i, hi, hw⟩⟩
/-- on a least way the next node is one nearer -/
theorem wd_next {y d x : Nat} (h : wd N b e ok y (d + 1) x) : ∃ r, r < N ∧ ok r = true ∧ b r = x ∧ wd N b e ok y d (e r) := by
  obtain ⟨⟨r, h1, h2, h3, h4⟩, h5⟩ := h
  exact ⟨r, h1, h2, h3, h4, fun i hi hw => h5 (i + 1) (by omega) ⟨r, h1, h2, h3, hw⟩⟩
/-- F holds the lengths of the least ways to t, up to m -/
def wf_to (N : Nat) (b e : Nat → Nat) (ok : Nat → Bool) (t m : Nat) (F : Nat → Int32) : Prop :=
  ∀ x, x < 28 → (∃ d, d ≤ m ∧ F x = nI d ∧ wd N b e ok t d x) ∨ (F x = -1 ∧ ∀ d, d ≤ m → ¬ wk N b e ok d x t)
/-- F holds the lengths of the least ways to t -/
def wf_all (N : Nat) (b e : Nat → Nat) (ok : Nat → Bool) (t : Nat) (F : Nat → Int32) : Prop :=
  ∀ x, x < 28 → (∃ d, d ≤ 28 ∧ F x = nI d ∧ wd N b e ok t d x) ∨ (F x = -1 ∧ ∀ d, ¬ wk N b e ok d x t)
/-- while the nodes of length m + 1 are being found: the rules below i are through -/
def wf_in (N : Nat) (b e : Nat → Nat) (ok : Nat → Bool) (t m i : Nat) (F : Nat → Int32) : Prop :=
  ∀ x, x < 28 → (∃ d, d ≤ m + 1 ∧ F x = nI d ∧ wd N b e ok t d x) ∨ (F x = -1 ∧ (∀ d, d ≤ m → ¬ wk N b e ok d x t) ∧ ∀ r, r < i → r < N → ok r = true → b r = x → ¬ wk N b e ok m (e r) t)
theorem wf_begin {t m : Nat} {F : Nat → Int32} (h : wf_to N b e ok t m F) : wf_in N b e ok t m 0 F := by
  intro x hx
  rcases h x hx with ⟨d, h1, h2, h3⟩ | ⟨h1, h2⟩
  · exact Or.inl ⟨d, by omega, h2, h3⟩
  · exact Or.inr ⟨h1, h2, fun r hr => absurd hr (Nat.not_lt_zero r)⟩
theorem wf_end {t m : Nat} {F : Nat → Int32} (h : wf_in N b e ok t m N F) : wf_to N b e ok t (m + 1) F := by
  intro x hx
  rcases h x hx with h | ⟨h1, h2, h3⟩
  · exact Or.inl h
  · refine Or.inr ⟨h1, fun d hd => ?_⟩
    rcases Nat.lt_or_ge d (m + 1) with q | q
    · exact h2 d (by omega)
    · have e1 : d = m + 1 := by omega
      subst e1
      rintro ⟨r, a1, a2, a3, a4⟩
      exact h3 r a1 a1 a2 a3 a4
theorem nI_m1 {d : Nat} (h : d < 2 ^ 31) : nI d ≠ -1 := fun q => by
  have h1 := nI_pos' h
  rw [q] at h1
  exact absurd h1 (by decide)
/-- a rule that finds no node -/
theorem wf_skip {t m i : Nat} {F : Nat → Int32} (hm : m < 28) (he : ∀ r, r < N → e r < 28) (h : wf_in N b e ok t m i F) (hs : i < N → ok i = true → F (b i) = -1 → F (e i) ≠ nI m) : wf_in N b e ok t m (i + 1) F := by
  intro x hx
  rcases h x hx with h1 | ⟨h1, h2, h3⟩
  · exact Or.inl h1
  · refine Or.inr ⟨h1, h2, fun r hr hrN hro hrx hw => ?_⟩
    rcases Nat.lt_or_ge r i with q | q
    · exact h3 r q hrN hro hrx hw
    · have e1 : r = i := by omega
      subst e1
      have hF := hs hrN hro (by rw [hrx]; exact h1)
      obtain ⟨d, hd, hwd⟩ := wd_of hw
      rcases h (e r) (he r hrN) with ⟨d2, a1, a2, a3⟩ | ⟨a1, a2, a3⟩
      · have e2 := wd_unique hwd a3
        subst e2
        rcases Nat.lt_or_ge d m with q2 | q2
        · exact h2 (d + 1) (by omega) ⟨r, hrN, hro, hrx, hwd.1⟩
        · have e3 : d = m := by omega
          subst e3; exact hF a2
      · exact a2 m (Nat.le_refl m) hw
/-- a rule that finds one -/
theorem wf_hit {t m i : Nat} {F : Nat → Int32} (hm : m < 28) (hi : i < N) (ho : ok i = true) (he : ∀ r, r < N → e r < 28) (h : wf_in N b e ok t m i F) (h1 : F (b i) = -1) (h2 : F (e i) = nI m) : wf_in N b e ok t m (i + 1) (upd F (b i) (nI (m + 1))) := by
  have hwm : wd N b e ok t m (e i) := by
    rcases h (e i) (he i hi) with ⟨d, a1, a2, a3⟩ | ⟨a1, -⟩
    · have e1 : d = m := (nI_eq (by omega) (by omega)).mp (a2.symm.trans h2)
      subst e1; exact a3
    · rw [a1] at h2
      exact absurd h2.symm (nI_m1 (by omega))
  intro x hx
  by_cases q : x = b i
  · subst q
    refine Or.inl ⟨m + 1, Nat.le_refl _, pk_us, ⟨i, hi, ho, rfl, hwm.1⟩, fun d hd => ?_⟩
    rcases h (b i) hx with ⟨d2, a1, a2, -⟩ | ⟨-, a2, -⟩
    · rw [a2] at h1
      exact absurd h1 (nI_m1 (by omega))
    · exact a2 d (by omega)
  · rcases h x hx with ⟨d, a1, a2, a3⟩ | ⟨a1, a2, a3⟩
    · exact Or.inl ⟨d, a1, by rw [pk_un q]; exact a2, a3⟩
    · refine Or.inr ⟨by rw [pk_un q]; exact a1, a2, fun r hr hrN hro hrx => ?_⟩
      rcases Nat.lt_or_ge r i with w | w
      · exact a3 r w hrN hro hrx
      · have e1 : r = i := by omega
        subst e1; exact absurd hrx.symm q
/-- nothing was found at m + 1: there is nothing farther -/
theorem wf_stop {t m : Nat} {F : Nat → Int32} (hm : m < 28) (he : ∀ r, r < N → e r < 28) (h : wf_to N b e ok t (m + 1) F) (hn : ∀ x, x < 28 → F x ≠ nI (m + 1)) : wf_all N b e ok t F := by
  have key : ∀ d x, x < 28 → F x = -1 → ¬ wk N b e ok d x t := by
    intro d
    induction d with
    | zero =>
      intro x hx hF
      rcases h x hx with ⟨d, a1, a2, -⟩ | ⟨-, a2⟩
      · rw [hF] at a2; exact absurd a2.symm (nI_m1 (by omega))
      · exact a2 0 (by omega)
    | succ d ih =>
      intro x hx hF hw
      rcases h x hx with ⟨d2, a1, a2, -⟩ | ⟨-, a2⟩
      · rw [hF] at a2; exact absurd a2.symm (nI_m1 (by omega))
      · obtain ⟨r, b1, b2, b3, b4⟩ := hw
        rcases h (e r) (he r b1) with ⟨d2, c1, c2, c3⟩ | ⟨c1, -⟩
        · have c4 : d2 ≠ m + 1 := fun q => hn (e r) (he r b1) (by rw [c2, q])
          exact a2 (d2 + 1) (by omega) ⟨r, b1, b2, b3, c3.1⟩
        · exact ih (e r) (he r b1) c1 b4
  intro x hx
  rcases h x hx with ⟨d, a1, a2, a3⟩ | ⟨a1, -⟩
  · exact Or.inl ⟨d, by omega, a2, a3⟩
  · exact Or.inr ⟨a1, fun d => key d x hx a1⟩
/-- all nodes have their lengths -/
theorem wf_full {t m : Nat} {F : Nat → Int32} (hm : m ≤ 28) (h : wf_to N b e ok t m F) (hf : ∀ x, x < 28 → F x ≠ -1) : wf_all N b e ok t F := by
  intro x hx
  rcases h x hx with ⟨d, a1, a2, a3⟩ | ⟨a1, -⟩
  · exact Or.inl ⟨d, by omega, a2, a3⟩
  · exact absurd a1 (hf x hx)
theorem wf_same {t : Nat} {F K : Nat → Int32} (h1 : wf_all N b e ok t F) (h2 : wf_all N b e ok t K) {x : Nat} (hx : x < 28) : F x = K x := by
  rcases h1 x hx with ⟨d, a1, a2, a3⟩ | ⟨a1, a2⟩ <;> rcases h2 x hx with ⟨i, c1, c2, c3⟩ | ⟨c1, c2⟩
  · rw [a2, c2, wd_unique a3 c3]
  · exact absurd a3.1 (c2 d)
  · exact absurd c3.1 (a2 i)
  · rw [a1, c1]
end WY
