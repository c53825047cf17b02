/-! The class's and the reference's loops over lengths of ways, held against the ways themselves. -/
theorem fg_og_t {β : Type} {c : Bool} {x : Option β} (h : c = true) : fg_og c x = x := by rw [h]; rfl
theorem fg_ob_s {α β : Type} {x : Option α} {k : α → Option β} {a : α} (h : x = some a) : fg_ob x k = k a := by rw [h]; rfl
def cl (A : fg_A) (r : Nat) : Nat := (A r).toNatClampNeg
def onb (O : fg_A) (r : Nat) : Bool := !decide (O r = 0)
/-- the rules as both hold them -/
def wfm (B E C O : fg_A) (n : Int32) (N : Nat) : Prop :=
  N ≤ 90 ∧ n = nI N ∧ ∀ r, r < N → (B r = nI (cl B r) ∧ cl B r < 28) ∧ (E r = nI (cl E r) ∧ cl E r < 28) ∧ cl B r ≠ cl E r ∧ (C r = nI (cl C r) ∧ 1 ≤ cl C r ∧ cl C r ≤ 9) ∧ (O r = 0 ∨ O r = 1)
theorem onb_t {O : fg_A} {r : Nat} (h : ¬ O r = 0) : onb O r = true := by unfold onb; rw [decide_eq_false h]; rfl
theorem onb_f {O : fg_A} {r : Nat} (h : O r = 0) : onb O r = false := by unfold onb; rw [decide_eq_true h]; rfl
theorem onb_ne {O : fg_A} {r : Nat} (h : onb O r = true) : ¬ O r = 0 := fun q => by rw [onb_f q] at h; cases h
theorem wfm.e28 {B E C O : fg_A} {n : Int32} {N : Nat} (h : wfm B E C O n N) : ∀ r, r < N → cl E r < 28 := fun r hr => (h.2.2 r hr).2.1.2
theorem wfm.b28 {B E C O : fg_A} {n : Int32} {N : Nat} (h : wfm B E C O n N) : ∀ r, r < N → cl B r < 28 := fun r hr => (h.2.2 r hr).1.2
/-- filling a row of 28 -/
theorem pf_fill {h : Nat → Int32 → fg_A → Option fg_A} {z : Int32} (h0 : ∀ k x F, h (k + 1) x F = if 28 ≤ x then some F else fg_og (ix x 28) (h k (x + 1) (upd F x.toNatClampNeg z))) :
    ∀ (k i : Nat) (F : fg_A), i ≤ 28 → 28 < i + k → (∀ x, x < i → F x = z) → ∃ K, h k (nI i) F = some K ∧ ∀ x, x < 28 → K x = z := by
  intro k
  induction k with
  | zero => intro i F hi hk; omega
  | succ k ih =>
    intro i F hi hk hF
    rw [h0]
    rcases Nat.lt_or_ge i 28 with q | q
    · rw [if_neg (show ¬ (28 : Int32) ≤ nI i from nI_ge q (by decide)), fg_og_t (ix_nI q (by decide)), nI_1, nI_clamp (by omega)]
      exact ih (i + 1) _ (by omega) (by omega) (fun x hx => by
        by_cases w : x = i
        · rw [w]; exact pk_us
        · rw [pk_un w]; exact hF x (by omega))
    · rw [if_pos (show (28 : Int32) ≤ nI i from nI_le q (by omega))]
      exact ⟨F, rfl, fun x hx => hF x (by omega)⟩
/-- the state of the search while length m + 1 is looked for -/
def ws_g (m : Nat) (g : Int32) (F : fg_A) : Prop := (g = 0 ∧ ∀ x, x < 28 → F x ≠ nI (m + 1)) ∨ (g = 1 ∧ ∃ x, x < 28 ∧ F x = nI (m + 1))
theorem ws_g_hit {m y : Nat} {F : fg_A} (hy : y < 28) : ws_g m 1 (upd F y (nI (m + 1))) := Or.inr ⟨rfl, y, hy, pk_us⟩
theorem pf_mwo {B E C O : fg_A} {n : Int32} {N t m : Nat} (Hw : wfm B E C O n N) (hm : m < 28) :
    ∀ (k i : Nat) (F : fg_A) (g : Int32), i ≤ N → N < i + k → wf_in N (cl B) (cl E) (onb O) t m i F → ws_g m g F →
      ∃ g' F', f_G_measureWaysOf_4 B E O n (nI (m + 1)) k g (nI i) F = some (g', F') ∧ wf_in N (cl B) (cl E) (onb O) t m N F' ∧ ws_g m g' F' ∧ ∀ x, x < 28 → F x ≠ -1 → F' x ≠ -1 := by
  obtain ⟨hN, hn, hr⟩ := id Hw
  intro k
  induction k with
  | zero => intro i F g hi hk; omega
  | succ k ih =>
    intro i F g hi hk hin hg
    rw [f_G_measureWaysOf_4]
    rcases Nat.lt_or_ge i N with q | q
    · obtain ⟨⟨hB, hB8⟩, ⟨hE, hE8⟩, hne, -, -⟩ := hr i q
      have h90 : ix (nI i) 90 = true := ix_nI (by omega) (by decide)
      have hci : (nI i).toNatClampNeg = i := nI_clamp (by omega)
      have hcB : (B i).toNatClampNeg = cl B i := rfl
      have hcE : (E i).toNatClampNeg = cl E i := rfl
      have hxB : ix (B i) 28 = true := by rw [hB]; exact ix_nI hB8 (by decide)
      have hxE : ix (E i) 28 = true := by rw [hE]; exact ix_nI hE8 (by decide)
      rw [if_neg (show ¬ n ≤ nI i by rw [hn]; exact nI_ge q (by omega)), fg_og_t h90, fg_og_t h90, hci, nI_1, nI_pred]
      by_cases hO : O i = 0
      · rw [if_pos hO]
        exact ih (i + 1) F g (by omega) (by omega) (wf_skip hm Hw.e28 hin (fun _ ho => absurd hO (onb_ne ho))) hg
      · rw [if_neg hO, fg_og_t hxB, hcB]
        by_cases hF : F (cl B i) = -1
        · rw [if_pos hF, fg_og_t h90, fg_og_t hxE, hcE]
          by_cases hK : F (cl E i) = nI m
          · rw [if_pos hK, fg_og_t hxB]
            obtain ⟨g', F', h1, h2, h3, h4⟩ := ih (i + 1) (upd F (cl B i) (nI (m + 1))) 1 (by omega) (by omega) (wf_hit hm q (onb_t hO) Hw.e28 hin hF hK) (ws_g_hit hB8)
            refine ⟨g', F', h1, h2, h3, fun x hx hx1 => h4 x hx ?_⟩
            by_cases w : x = cl B i
            · rw [w, pk_us]; exact nI_m1 (by omega)
            · rw [pk_un w]; exact hx1
          · rw [if_neg hK]
            exact ih (i + 1) F g (by omega) (by omega) (wf_skip hm Hw.e28 hin (fun _ _ _ => hK)) hg
        · rw [if_neg hF]
          exact ih (i + 1) F g (by omega) (by omega) (wf_skip hm Hw.e28 hin (fun _ _ h => absurd h hF)) hg
    · have e1 : i = N := by omega
      subst e1
      rw [if_pos (show n ≤ nI i by rw [hn]; exact nI_le (Nat.le_refl i) (by omega))]
      exact ⟨g, F, rfl, hin, hg, fun _ _ h => h⟩
/-- which nodes have a length -/
def asg (F : fg_A) (x : Nat) : Bool := !decide (F x = -1)
theorem asg_t {F : fg_A} {x : Nat} : asg F x = true ↔ F x ≠ -1 := by unfold asg; simp
/-- a round that found a node has one more -/
theorem ws_more {N t m : Nat} {b e : Nat → Nat} {ok : Nat → Bool} {F K : fg_A} (hm : m < 28) (h : wf_to N b e ok t m F) (hK : ∀ x, x < 28 → F x ≠ -1 → K x ≠ -1) (hx : ∃ x, x < 28 ∧ K x = nI (m + 1)) (hK2 : wf_to N b e ok t (m + 1) K) : ct (asg F) 28 < ct (asg K) 28 := by
  obtain ⟨x, hx, hx2⟩ := hx
  refine ct_lt (fun i hi hp => asg_t.mpr (hK i hi (asg_t.mp hp))) hx ?_ (asg_t.mpr (by rw [hx2]; exact nI_m1 (by omega)))
  cases hq : asg F x with
  | false => rfl
  | true =>
    exfalso
    have h1 := asg_t.mp hq
    rcases h x hx with ⟨d, a1, a2, a3⟩ | ⟨a1, -⟩
    · rcases hK2 x hx with ⟨d2, c1, c2, c3⟩ | ⟨c1, -⟩
      · have e1 : d2 = m + 1 := (nI_eq (by omega) (by omega)).mp (c2.symm.trans hx2)
        have e2 := wd_unique a3 c3
        omega
      · rw [c1] at hx2; exact absurd hx2.symm (nI_m1 (by omega))
    · exact h1 a1
theorem pf_mwt {B E C O : fg_A} {n : Int32} {N t : Nat} (Hw : wfm B E C O n N) :
    ∀ (k m : Nat) (F : fg_A) (g : Int32), m < 28 → 28 < m + k → wf_to N (cl B) (cl E) (onb O) t m F → (g = 0 ∧ wf_all N (cl B) (cl E) (onb O) t F ∨ g = 1 ∧ m + 1 ≤ ct (asg F) 28) →
      ∃ F', f_G_measureWaysTo_32 B E O n k g (nI (m + 1)) F = some F' ∧ wf_all N (cl B) (cl E) (onb O) t F' := by
  intro k
  induction k with
  | zero => intro m F g hm hk; omega
  | succ k ih =>
    intro m F g hm hk hto hg
    rw [f_G_measureWaysTo_32]
    rcases hg with ⟨rfl, hall⟩ | ⟨rfl, hct⟩
    · by_cases q : (28 : Int32) ≤ nI (m + 1)
      · rw [if_pos q]; exact ⟨F, rfl, hall⟩
      · rw [if_neg q, if_pos rfl]; exact ⟨F, rfl, hall⟩
    · rcases Nat.lt_or_ge (m + 1) 28 with q | q
      · rw [if_neg (show ¬ (28 : Int32) ≤ nI (m + 1) from nI_ge q (by decide)), if_neg (show ¬ (1 : Int32) = 0 by decide)]
        obtain ⟨g', F', h1, h2, h3, h4⟩ := pf_mwo (t := t) Hw hm fu 0 F 0 (Nat.zero_le N) (by show N < 0 + 1000; have := Hw.1; omega) (wf_begin hto) (by
          refine Or.inl ⟨rfl, fun x hx hx2 => ?_⟩
          rcases hto x hx with ⟨d, a1, a2, -⟩ | ⟨a1, -⟩
          · have e1 : d = m + 1 := (nI_eq (by omega) (by omega)).mp (a2.symm.trans hx2)
            omega
          · rw [a1] at hx2; exact absurd hx2.symm (nI_m1 (by omega)))
        have hto2 := wf_end h2
        have hm1 : f_G_measureWaysOf B E O n F (nI (m + 1)) = some (g', F') := by
          unfold f_G_measureWaysOf
          rw [fg_ob_s (show f_G_measureWaysOf_4 B E O n (nI (m + 1)) fu 0 0 F = some (g', F') from h1)]
          exact fg_og_t (by rcases h3 with ⟨rfl, -⟩ | ⟨rfl, -⟩ <;> rfl)
        rw [fg_ob_s hm1, nI_1]
        refine ih (m + 1) F' g' q (by omega) hto2 ?_
        rcases h3 with ⟨rfl, h3⟩ | ⟨rfl, h3⟩
        · exact Or.inl ⟨rfl, wf_stop hm Hw.e28 hto2 h3⟩
        · exact Or.inr ⟨rfl, by have := ws_more hm hto h4 h3 hto2; omega⟩
      · rw [if_pos (show (28 : Int32) ≤ nI (m + 1) from nI_le q (by omega))]
        exact ⟨F, rfl, wf_full (by omega) hto (fun x hx => asg_t.mp (ct_full (by omega) hx))⟩
theorem ws_start {N t : Nat} {b e : Nat → Nat} {ok : Nat → Bool} {F : fg_A} (ht : t < 28) (hF : ∀ x, x < 28 → F x = -1) : wf_to N b e ok t 0 (upd F t 0) ∧ 0 + 1 ≤ ct (asg (upd F t 0)) 28 := by
  refine ⟨fun x hx => ?_, ?_⟩
  · by_cases q : x = t
    · subst q
      exact Or.inl ⟨0, Nat.le_refl 0, by rw [pk_us]; rfl, rfl, fun i hi => absurd hi (Nat.not_lt_zero i)⟩
    · refine Or.inr ⟨by rw [pk_un q]; exact hF x hx, fun d hd hw => ?_⟩
      have e1 : d = 0 := by omega
      subst e1; exact q hw
  · have h1 := ct_lt (p := fun _ => false) (q := asg (upd F t 0)) (fun _ _ h => (by cases h)) ht rfl (asg_t.mpr (by rw [pk_us]; decide))
    omega
/-- the class's lengths -/
theorem pf_mw {B E C O : fg_A} {n : Int32} {N t : Nat} (Hw : wfm B E C O n N) (ht : t < 28) (F : fg_A) : ∃ F', f_G_measureWaysTo B E O n F (nI t) = some F' ∧ wf_all N (cl B) (cl E) (onb O) t F' := by
  obtain ⟨K, h1, h2⟩ := pf_fill (h := f_G_measureWaysTo_2 (nI t)) (z := -1) (fun _ _ _ => rfl) fu 0 F (by omega) (by decide) (fun x hx => absurd hx (Nat.not_lt_zero x))
  obtain ⟨h3, h4⟩ := ws_start (N := N) (b := cl B) (e := cl E) (ok := onb O) ht h2
  obtain ⟨F', h5, h6⟩ := pf_mwt (t := t) Hw fu 0 (upd K t 0) 1 (by omega) (by decide) h3 (Or.inr ⟨rfl, h4⟩)
  refine ⟨F', ?_, h6⟩
  unfold f_G_measureWaysTo
  rw [fg_ob_s (show f_G_measureWaysTo_2 (nI t) fu 0 F = some K from h1), fg_og_t (ix_nI ht (by decide)), nI_clamp (by omega), fg_ob_s (show f_G_measureWaysTo_32 B E O n fu 1 1 (upd K t 0) = some F' from h5)]
