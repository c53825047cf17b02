/-! Circles and passed nodes: the reference's loops, and both are alike. -/
theorem pf_b10 {F : fg_A} {P : Nat → Prop} (hF : ∀ v, v < 28 → (¬ F v < 0 ↔ P v)) :
    ∀ (k i : Nat) (x : Int32), i ≤ 28 → 28 < i + k → mk28 x → (∀ v, v < 28 → (bt x v = true ↔ v < i ∧ P v)) → ∃ y, f_M_before_10 F k x (nI i) = some y ∧ mk28 y ∧ ∀ v, v < 28 → (bt y v = true ↔ P v) := by
  intro k
  induction k with
  | zero => intro i x hi hk; omega
  | succ k ih =>
    intro i x hi hk hx hb
    rw [f_M_before_10]
    rcases Nat.lt_or_ge i 28 with q | q
    · rw [if_neg (show ¬ (28 : Int32) ≤ nI i from nI_ge q (by decide)), fg_og_t (ix_nI q (by decide)), nI_clamp (by omega), nI_1]
      by_cases h : F i < 0
      · rw [if_pos h]
        refine ih (i + 1) x (by omega) (by omega) hx fun v hv => ?_
        rw [hb v hv]
        constructor
        · rintro ⟨a, p⟩; exact ⟨by omega, p⟩
        · rintro ⟨a, p⟩
          have hne : v ≠ i := fun e => by subst e; exact (hF v hv).mpr p h
          exact ⟨by omega, p⟩
      · rw [if_neg h]
        refine ih (i + 1) _ (by omega) (by omega) (mk28_or hx q) fun v hv => ?_
        rw [mb_or (by omega) (by omega), Bool.or_eq_true, decide_eq_true_eq, hb v hv]
        constructor
        · rintro (⟨a, p⟩ | rfl)
          · exact ⟨by omega, p⟩
          · exact ⟨by omega, (hF _ q).mp h⟩
        · rintro ⟨a, p⟩
          by_cases e : v = i
          · exact Or.inr e
          · exact Or.inl ⟨by omega, p⟩
    · rw [if_pos (show (28 : Int32) ≤ nI i from nI_le q (by omega))]
      exact ⟨x, rfl, hx, fun v hv => by rw [hb v hv]; exact ⟨fun h => h.2, fun h => ⟨by omega, h⟩⟩⟩
theorem wf_neg {N t x : Nat} {b e : Nat → Nat} {ok : Nat → Bool} {F : fg_A} (h : wf_all N b e ok t F) (hx : x < 28) : ¬ F x < 0 ↔ ∃ d, wk N b e ok d x t := by
  rcases h x hx with ⟨d, a1, a2, a3⟩ | ⟨a1, a2⟩
  · rw [a2]
    exact ⟨fun _ => ⟨d, a3.1⟩, fun _ => nI_pos (by omega)⟩
  · rw [a1]
    exact ⟨fun q => absurd (by decide) q, fun ⟨d, hd⟩ => absurd hd (a2 d)⟩
theorem mk28_0 : mk28 0 := fun i _ => b_0 i
theorem pf_before {B E C O : fg_A} {n : Int32} {N v : Nat} (Hw : wfm B E C O n N) (hv : v < 28) (K : fg_A) :
    ∃ y K', f_M_before n B E O K (nI v) = some (y, K') ∧ mk28 y ∧ ∀ w, w < 28 → (bt y w = true ↔ ∃ d, wk N (cl B) (cl E) (onb O) d w v) := by
  obtain ⟨K', h1, h2⟩ := pf_mm Hw hv K (-1)
  have h3 := wf_all_congr (okm_m1 Hw) h2
  obtain ⟨y, a1, a2, a3⟩ := pf_b10 (F := K') (fun w hw => wf_neg h3 hw) fu 0 0 (by omega) (by decide) mk28_0 (fun w _ => by rw [b_0]; exact ⟨fun h => (by cases h), fun h => absurd h.1 (Nat.not_lt_zero w)⟩)
  refine ⟨y, K', ?_, a2, a3⟩
  unfold f_M_before
  rw [fg_ob_s h1, fg_ob_s (show f_M_before_10 K' fu 0 0 = some y from a1)]
theorem pf_c11 {B E C O : fg_A} {n x2 : Int32} {N v : Nat} (Hw : wfm B E C O n N) (hv : v < 28) (h2 : ∀ w, w < 28 → (bt x2 w = true ↔ ∃ d, wk N (cl B) (cl E) (onb O) d w v)) :
    ∀ (k i : Nat) (x : Int32) (K : fg_A), i ≤ 28 → 28 < i + k → mk28 x → (∀ w, w < 28 → (bt x w = true ↔ w < i ∧ scc B E O N v w)) → ∃ y K', f_M_circleOf_11 n B E O (nI v) x2 k x (nI i) K = some (y, K') ∧ mk28 y ∧ ∀ w, w < 28 → (bt y w = true ↔ scc B E O N v w) := by
  intro k
  induction k with
  | zero => intro i x K hi hk; omega
  | succ k ih =>
    intro i x K hi hk hx hb
    rw [f_M_circleOf_11]
    rcases Nat.lt_or_ge i 28 with q | q
    · rw [if_neg (show ¬ (28 : Int32) ≤ nI i from nI_ge q (by decide)), nI_1]
      have miss : ∀ K2, ¬ scc B E O N v i → ∃ y K', f_M_circleOf_11 n B E O (nI v) x2 k x (nI (i + 1)) K2 = some (y, K') ∧ mk28 y ∧ ∀ w, w < 28 → (bt y w = true ↔ scc B E O N v w) := fun K2 hno => by
        refine ih (i + 1) x K2 (by omega) (by omega) hx fun w hw => ?_
        rw [hb w hw]
        constructor
        · rintro ⟨a, p⟩; exact ⟨by omega, p⟩
        · rintro ⟨a, p⟩
          have hne : w ≠ i := fun e => by subst e; exact hno p
          exact ⟨by omega, p⟩
      by_cases h : bt x2 i = true
      · rw [if_pos ((mb_bit (by omega)).mpr h)]
        obtain ⟨y, K', a1, a2, a3⟩ := pf_before Hw q K
        rw [fg_ob_s a1]
        dsimp only
        by_cases h' : bt y v = true
        · rw [if_pos ((mb_bit (by omega)).mpr h')]
          have hsc : scc B E O N v i := ⟨(a3 v hv).mp h', (h2 i q).mp h⟩
          refine ih (i + 1) _ K' (by omega) (by omega) (mk28_or hx q) fun w hw => ?_
          rw [mb_or (by omega) (by omega), Bool.or_eq_true, decide_eq_true_eq, hb w hw]
          constructor
          · rintro (⟨a, p⟩ | rfl)
            · exact ⟨by omega, p⟩
            · exact ⟨by omega, hsc⟩
          · rintro ⟨a, p⟩
            by_cases e : w = i
            · exact Or.inr e
            · exact Or.inl ⟨by omega, p⟩
        · rw [if_neg (fun z => h' ((mb_bit (by omega)).mp z))]
          exact miss K' (fun hs => h' ((a3 v hv).mpr hs.1))
      · rw [if_neg (fun z => h ((mb_bit (by omega)).mp z))]
        exact miss K (fun hs => h ((h2 i q).mpr hs.2))
    · rw [if_pos (show (28 : Int32) ≤ nI i from nI_le q (by omega))]
      exact ⟨x, K, rfl, hx, fun w hw => by rw [hb w hw]; exact ⟨fun h => h.2, fun h => ⟨by omega, h⟩⟩⟩
/-- the reference's circle -/
theorem pf_circM {B E C O : fg_A} {n : Int32} {N v : Nat} (Hw : wfm B E C O n N) (hv : v < 28) (K : fg_A) : ∃ y K', f_M_circleOf n B E O K (nI v) = some (y, K') ∧ mk28 y ∧ ∀ w, w < 28 → (bt y w = true ↔ scc B E O N v w) := by
  obtain ⟨x2, K1, a1, a2, a3⟩ := pf_before Hw hv K
  obtain ⟨y, K', c1, c2, c3⟩ := pf_c11 Hw hv a3 fu 0 0 K1 (by omega) (by decide) mk28_0 (fun w _ => by rw [b_0]; exact ⟨fun h => (by cases h), fun h => absurd h.1 (Nat.not_lt_zero w)⟩)
  refine ⟨y, K', ?_, c2, c3⟩
  unfold f_M_circleOf
  rw [fg_ob_s a1]
  dsimp only
  rw [fg_ob_s (show f_M_circleOf_11 n B E O (nI v) x2 fu 0 0 K1 = some (y, K') from c1)]
/-- promise 8 -/
theorem pf_circle {B E C O : fg_A} {n : Int32} {N v : Nat} (Hw : wfm B E C O n N) (hv : v < 28) (K : fg_A) (t : Int32) : ∃ (y : Int32) (K' : fg_A), f_G_circle B E O n (nI v) = some y ∧ f_M_circle t n B E O K (nI v) = some (y, 0, K') := by
  obtain ⟨y, a1, a2, a3⟩ := pf_circ Hw hv
  obtain ⟨z, K', c1, c2, c3⟩ := pf_circM Hw hv K
  have e1 : y = z := mk_ext a2 c2 fun w hw => by
    cases h1 : bt y w <;> cases h2 : bt z w
    · rfl
    · rw [(a3 w).mpr ((c3 w hw).mp h2)] at h1; cases h1
    · rw [(c3 w hw).mpr ((a3 w).mp h1)] at h2; cases h2
    · rfl
  subst e1
  refine ⟨y, K', ?_, ?_⟩
  · unfold f_G_circle
    rw [fg_ob_s (pf_need1 hv), fg_ob_s a1]
  · have e2 : f_M_refuse t 0 0 = some (0, 0) := rfl
    unfold f_M_circle
    rw [fg_ob_s (pf_isNode hv), if_neg (by decide), fg_ob_s e2]
    dsimp only
    rw [if_pos rfl, fg_ob_s c1]
/-- v is the least of its circle -/
def ldr (B E O : fg_A) (N v : Nat) : Prop := ∀ u, u < v → ¬ scc B E O N v u
noncomputable def ldb (B E O : fg_A) (N v : Nat) : Bool := @decide (ldr B E O N v) (Classical.propDecidable _)
theorem ldb_t {B E O : fg_A} {N v : Nat} : ldb B E O N v = true ↔ ldr B E O N v := by unfold ldb; simp
theorem pf_cs6 {B E C O : fg_A} {n : Int32} {N : Nat} (Hw : wfm B E C O n N) :
    ∀ (k i : Nat) (x : Int32), i ≤ 28 → 28 < i + k → (∀ w, w < 28 → (bt x w = true ↔ ∃ u, u < i ∧ scc B E O N u w)) → f_G_circles_6 B E O n k x (nI (ct (ldb B E O N) i)) (nI i) = some (nI (ct (ldb B E O N) 28)) := by
  intro k
  induction k with
  | zero => intro i x hi hk; omega
  | succ k ih =>
    intro i x hi hk hx
    rw [f_G_circles_6]
    rcases Nat.lt_or_ge i 28 with q | q
    · rw [if_neg (show ¬ (28 : Int32) ≤ nI i from nI_ge q (by decide)), fg_ob_s (pf_has (by omega)), nI_1]
      by_cases h : bt x i = true
      · rw [if_pos h, if_neg (by decide)]
        obtain ⟨u, hu, hsu⟩ := (hx i q).mp h
        have hl : ¬ ldb B E O N i = true := fun z => ldb_t.mp z u hu (scc_symm hsu)
        have e1 : ct (ldb B E O N) (i + 1) = ct (ldb B E O N) i := by show ct (ldb B E O N) i + (if ldb B E O N i = true then 1 else 0) = _; rw [if_neg hl]; rfl
        rw [← e1, nI_1]
        refine ih (i + 1) x (by omega) (by omega) fun w hw => ?_
        rw [hx w hw]
        constructor
        · rintro ⟨z, hz, hs⟩; exact ⟨z, by omega, hs⟩
        · rintro ⟨z, hz, hs⟩
          by_cases e : z = i
          · subst e; exact ⟨u, hu, scc_trans hsu hs⟩
          · exact ⟨z, by omega, hs⟩
      · rw [if_neg h, if_pos rfl]
        obtain ⟨y, a1, a2, a3⟩ := pf_circ Hw q
        rw [fg_ob_s a1, nI_1]
        have hl : ldb B E O N i = true := ldb_t.mpr fun u hu hs => h ((hx i q).mpr ⟨u, hu, scc_symm hs⟩)
        have e1 : ct (ldb B E O N) (i + 1) = ct (ldb B E O N) i + 1 := by show ct (ldb B E O N) i + (if ldb B E O N i = true then 1 else 0) = _; rw [if_pos hl]
        rw [← e1]
        refine ih (i + 1) _ (by omega) (by omega) fun w hw => ?_
        rw [b_or, Bool.or_eq_true, hx w hw, a3 w]
        constructor
        · rintro (⟨z, hz, hs⟩ | hs)
          · exact ⟨z, by omega, hs⟩
          · exact ⟨i, by omega, hs⟩
        · rintro ⟨z, hz, hs⟩
          by_cases e : z = i
          · subst e; exact Or.inr hs
          · exact Or.inl ⟨z, by omega, hs⟩
    · have e1 : i = 28 := by omega
      subst e1
      rw [if_pos (show (28 : Int32) ≤ nI 28 from nI_le (Nat.le_refl 28) (by decide))]
theorem pf_cs9 {B E C O : fg_A} {n : Int32} {N : Nat} (Hw : wfm B E C O n N) :
    ∀ (k i : Nat) (K : fg_A), i ≤ 28 → 28 < i + k → ∃ K', f_M_circles_9 n B E O k (nI (ct (ldb B E O N) i)) (nI i) K = some (nI (ct (ldb B E O N) 28), K') := by
  intro k
  induction k with
  | zero => intro i K hi hk; omega
  | succ k ih =>
    intro i K hi hk
    rw [f_M_circles_9]
    rcases Nat.lt_or_ge i 28 with q | q
    · obtain ⟨y, K', a1, a2, a3⟩ := pf_circM Hw q K
      rw [if_neg (show ¬ (28 : Int32) ≤ nI i from nI_ge q (by decide)), fg_ob_s a1, nI_1]
      dsimp only
      have key : (y &&& (((1 : Int32) <<< (nI i &&& 31)) - 1)) = 0 ↔ ldb B E O N i = true := by
        rw [ldb_t]
        constructor
        · intro h u hu hs
          have h1 := b_and y (((1 : Int32) <<< (nI i &&& 31)) - 1) u
          rw [h, b_0, mb_low i q u (by omega), (a3 u (by omega)).mpr hs, decide_eq_true hu] at h1
          cases h1
        · intro h
          refine b_ext fun j hj => ?_
          rw [b_and, b_0, mb_low i q j hj]
          by_cases hji : j < i
          · have : bt y j = false := by
              cases hy : bt y j with
              | false => rfl
              | true => exact (h j hji ((a3 j (by omega)).mp hy)).elim
            rw [this]; rfl
          · rw [decide_eq_false hji]; simp
      by_cases h : ldb B E O N i = true
      · have e1 : ct (ldb B E O N) (i + 1) = ct (ldb B E O N) i + 1 := by show ct (ldb B E O N) i + (if ldb B E O N i = true then 1 else 0) = _; rw [if_pos h]
        rw [if_pos (key.mpr h), nI_1, ← e1]
        exact ih (i + 1) K' (by omega) (by omega)
      · have e1 : ct (ldb B E O N) (i + 1) = ct (ldb B E O N) i := by show ct (ldb B E O N) i + (if ldb B E O N i = true then 1 else 0) = _; rw [if_neg h]; rfl
        rw [if_neg (fun z => h (key.mp z)), ← e1, nI_1]
        exact ih (i + 1) K' (by omega) (by omega)
    · have e1 : i = 28 := by omega
      subst e1
      rw [if_pos (show (28 : Int32) ≤ nI 28 from nI_le (Nat.le_refl 28) (by decide))]
      exact ⟨K, rfl⟩
/-- promise 9 -/
theorem pf_circles {B E C O : fg_A} {n : Int32} {N : Nat} (Hw : wfm B E C O n N) (K : fg_A) (t : Int32) : ∃ (r : Int32) (K' : fg_A), f_G_circles B E O n = some r ∧ f_M_circles t n B E O K = some (r, 0, K') := by
  have h1 := pf_cs6 Hw fu 0 0 (by omega) (by decide) (fun w _ => by rw [b_0]; exact ⟨fun h => (by cases h), fun ⟨u, hu, _⟩ => absurd hu (Nat.not_lt_zero u)⟩)
  obtain ⟨K', h2⟩ := pf_cs9 Hw fu 0 K (by omega) (by decide)
  refine ⟨nI (ct (ldb B E O N) 28), K', ?_, ?_⟩
  · unfold f_G_circles
    rw [fg_ob_s (show f_G_circles_6 B E O n fu 0 0 0 = some (nI (ct (ldb B E O N) 28)) from h1)]
  · unfold f_M_circles
    rw [fg_ob_s (show f_M_circles_9 n B E O fu 0 0 K = some (nI (ct (ldb B E O N) 28), K') from h2)]
