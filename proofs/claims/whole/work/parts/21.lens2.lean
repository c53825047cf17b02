/-- the rules that the reference uses when it goes without a node -/
def okm (B E O : fg_A) (w : Int32) (r : Nat) : Bool := onb O r && !decide (B r = w) && !decide (E r = w)
theorem okm_t {B E O : fg_A} {w : Int32} {r : Nat} : okm B E O w r = true ↔ (¬ O r = 0 ∧ ¬ B r = w ∧ ¬ E r = w) := by
  unfold okm onb
  simp [Bool.and_eq_true, and_assoc]
theorem pf_mm42 {B E C O : fg_A} {n w : Int32} {N t m : Nat} (Hw : wfm B E C O n N) (hm : m < 28) :
    ∀ (k i : Nat) (F : fg_A) (g : Int32), i ≤ N → N < i + k → wf_in N (cl B) (cl E) (okm B E O w) t m i F → ws_g m g F →
      ∃ g' F', f_M_measure_42 n B E O w (nI m) k g (nI i) F = some (g', F') ∧ wf_in N (cl B) (cl E) (okm B E O w) t m N F' ∧ ws_g m g' F' ∧ ∀ x, x < 28 → F x ≠ -1 → F' x ≠ -1 := by
  obtain ⟨hN, hn, hr⟩ := id Hw
  intro k
  induction k with
  | zero => intro i F g hi hk; omega
  | succ k ih =>
    intro i F g hi hk hin hg
    rw [f_M_measure_42]
    rcases Nat.lt_or_ge i N with q | q
    · obtain ⟨⟨hB, hB8⟩, ⟨hE, hE8⟩, hne, -, -⟩ := hr i q
      have h90 : ix (nI i) 90 = true := ix_nI (by omega) (by decide)
      have hci : (nI i).toNatClampNeg = i := nI_clamp (by omega)
      have hcB : (B i).toNatClampNeg = cl B i := rfl
      have hcE : (E i).toNatClampNeg = cl E i := rfl
      have hxB : ix (B i) 28 = true := by rw [hB]; exact ix_nI hB8 (by decide)
      have hxE : ix (E i) 28 = true := by rw [hE]; exact ix_nI hE8 (by decide)
      have go : (i < N → okm B E O w i = true → F (cl B i) = -1 → F (cl E i) ≠ nI m) → ∃ g' F', f_M_measure_42 n B E O w (nI m) k g (nI (i + 1)) F = some (g', F') ∧ wf_in N (cl B) (cl E) (okm B E O w) t m N F' ∧ ws_g m g' F' ∧ ∀ x, x < 28 → F x ≠ -1 → F' x ≠ -1 :=
        fun h => ih (i + 1) F g (by omega) (by omega) (wf_skip hm Hw.e28 hin h) hg
      rw [if_neg (show ¬ n ≤ nI i by rw [hn]; exact nI_ge q (by omega)), fg_og_t h90, hci, nI_1, nI_1]
      by_cases hO : O i = 0
      · rw [if_pos hO]
        exact go (fun _ ho => absurd hO (okm_t.mp ho).1)
      · rw [if_neg hO, fg_og_t h90, fg_og_t hxE, hcE]
        by_cases hK : F (cl E i) = nI m
        · rw [if_pos hK, fg_og_t h90, fg_og_t hxB, hcB]
          by_cases hF : 0 ≤ F (cl B i)
          · rw [if_pos hF]
            exact go (fun _ _ h => by rw [h] at hF; exact absurd hF (by decide))
          · rw [if_neg hF, fg_og_t h90]
            by_cases hw1 : B i = w
            · rw [if_pos hw1]
              exact go (fun _ ho => absurd hw1 (okm_t.mp ho).2.1)
            · rw [if_neg hw1, fg_og_t h90]
              by_cases hw2 : E i = w
              · rw [if_pos hw2]
                exact go (fun _ ho => absurd hw2 (okm_t.mp ho).2.2)
              · rw [if_neg hw2, fg_og_t h90, fg_og_t hxB]
                have hF1 : F (cl B i) = -1 := by
                  rcases hin (cl B i) hB8 with ⟨d, a1, a2, -⟩ | ⟨a1, -⟩
                  · rw [a2] at hF; exact absurd (nI_pos' (by omega)) hF
                  · exact a1
                obtain ⟨g', F', h1, h2, h3, h4⟩ := ih (i + 1) (upd F (cl B i) (nI (m + 1))) 1 (by omega) (by omega) (wf_hit hm q (okm_t.mpr ⟨hO, hw1, hw2⟩) Hw.e28 hin hF1 hK) (ws_g_hit hB8)
                refine ⟨g', F', h1, h2, h3, fun x hx hx1 => h4 x hx ?_⟩
                by_cases w : x = cl B i
                · rw [w, pk_us]; exact nI_m1 (by omega)
                · rw [pk_un w]; exact hx1
        · rw [if_neg hK]
          exact go (fun _ _ _ => hK)
    · have e1 : i = N := by omega
      subst e1
      rw [if_pos (show n ≤ nI i by rw [hn]; exact nI_le (Nat.le_refl i) (by omega))]
      exact ⟨g, F, rfl, hin, hg, fun _ _ h => h⟩
theorem pf_mm33 {B E C O : fg_A} {n w : Int32} {N t : Nat} (Hw : wfm B E C O n N) :
    ∀ (k m : Nat) (F : fg_A) (g : Int32), 28 < m + k → (g = 0 ∧ wf_all N (cl B) (cl E) (okm B E O w) t F ∨ g = 1 ∧ m + 1 ≤ ct (asg F) 28 ∧ wf_to N (cl B) (cl E) (okm B E O w) t m F) → (g = 0 → 0 < k) →
      ∃ F', f_M_measure_33 n B E O w k g (nI m) F = some F' ∧ wf_all N (cl B) (cl E) (okm B E O w) t F' := by
  intro k
  induction k with
  | zero =>
    intro m F g hk hg h0
    rcases hg with ⟨rfl, -⟩ | ⟨rfl, h1, -⟩
    · exact absurd (h0 rfl) (Nat.lt_irrefl 0)
    · have := ct_le (p := asg F) 28; omega
  | succ k ih =>
    intro m F g hk hg _
    rw [f_M_measure_33]
    rcases hg with ⟨rfl, hall⟩ | ⟨rfl, hct, hto⟩
    · rw [if_pos rfl]; exact ⟨F, rfl, hall⟩
    · have hm : m < 28 := by have := ct_le (p := asg F) 28; omega
      rw [if_neg (show ¬ (1 : Int32) = 0 by decide)]
      obtain ⟨g', F', h1, h2, h3, h4⟩ := pf_mm42 (t := t) (w := w) Hw hm fu 0 F 0 (Nat.zero_le N) (by show N < 0 + 1000; have := Hw.1; omega) (wf_begin hto) (by
        refine Or.inl ⟨rfl, fun x hx hx2 => ?_⟩
        rcases hto x hx with ⟨d, a1, a2, -⟩ | ⟨a1, -⟩
        · have e1 : d = m + 1 := (nI_eq (by omega) (by omega)).mp (a2.symm.trans hx2)
          omega
        · rw [a1] at hx2; exact absurd hx2.symm (nI_m1 (by omega)))
      have hto2 := wf_end h2
      rw [fg_ob_s (show f_M_measure_42 n B E O w (nI m) fu 0 0 F = some (g', F') from h1), nI_1]
      refine ih (m + 1) F' g' (by omega) ?_ ?_
      · rcases h3 with ⟨rfl, h3⟩ | ⟨rfl, h3⟩
        · exact Or.inl ⟨rfl, wf_stop hm Hw.e28 hto2 h3⟩
        · exact Or.inr ⟨rfl, by have := ws_more hm hto h4 h3 hto2; omega, hto2⟩
      · intro _; omega
/-- the reference's lengths, without the node w -/
theorem pf_mm {B E C O : fg_A} {n : Int32} {N t : Nat} (Hw : wfm B E C O n N) (ht : t < 28) (F : fg_A) (w : Int32) : ∃ F', f_M_measure n B E O F (nI t) w = some F' ∧ wf_all N (cl B) (cl E) (okm B E O w) t F' := by
  obtain ⟨K, h1, h2⟩ := pf_fill (h := f_M_measure_2 (nI t) w) (z := -1) (fun _ _ _ => rfl) fu 0 F (by omega) (by decide) (fun x hx => absurd hx (Nat.not_lt_zero x))
  obtain ⟨h3, h4⟩ := ws_start (N := N) (b := cl B) (e := cl E) (ok := okm B E O w) ht h2
  obtain ⟨F', h5, h6⟩ := pf_mm33 (t := t) (w := w) Hw fu 0 (upd K t 0) 1 (by decide) (Or.inr ⟨rfl, h4, h3⟩) (fun _ => by decide)
  refine ⟨F', ?_, h6⟩
  unfold f_M_measure
  rw [fg_ob_s (show f_M_measure_2 (nI t) w fu 0 F = some K from h1), fg_og_t (ix_nI ht (by decide)), nI_clamp (by omega), fg_ob_s (show f_M_measure_33 n B E O w fu 1 0 (upd K t 0) = some F' from h5)]
theorem wf_all_congr {N t : Nat} {b e : Nat → Nat} {ok ok2 : Nat → Bool} {F : fg_A} (h : ∀ r, r < N → ok r = ok2 r) (hF : wf_all N b e ok t F) : wf_all N b e ok2 t F := by
  have a1 : ∀ d x, wk N b e ok d x t → wk N b e ok2 d x t := fun d x => wk_congr fun r hr q => by rw [← h r hr]; exact q
  have a2 : ∀ d x, wk N b e ok2 d x t → wk N b e ok d x t := fun d x => wk_congr fun r hr q => by rw [h r hr]; exact q
  intro x hx
  rcases hF x hx with ⟨d, c1, c2, c3, c4⟩ | ⟨c1, c2⟩
  · exact Or.inl ⟨d, c1, c2, a1 d x c3, fun i hi q => c4 i hi (a2 i x q)⟩
  · exact Or.inr ⟨c1, fun d q => c2 d (a2 d x q)⟩
theorem okm_m1 {B E C O : fg_A} {n : Int32} {N : Nat} (Hw : wfm B E C O n N) : ∀ r, r < N → okm B E O (-1) r = onb O r := by
  intro r hr
  obtain ⟨⟨hB, hB8⟩, ⟨hE, hE8⟩, -⟩ := Hw.2.2 r hr
  unfold okm
  rw [hB, hE, decide_eq_false (nI_m1 (by omega)), decide_eq_false (nI_m1 (by omega))]
  simp
/-- a number of a node -/
theorem nd_of {x : Int32} (h0 : ¬ x < 0) (h : x < 28) : ∃ v, v < 28 ∧ x = nI v := by
  obtain ⟨j, hj, rfl⟩ := nI_of h0
  exact ⟨j, (nI_ltI hj (by decide)).mp (show nI j < nI 28 from h), rfl⟩
theorem pf_need1 {v : Nat} (h : v < 28) : f_G_needNode (nI v) = some () := by
  unfold f_G_needNode
  rw [if_neg (nI_pos (by omega)), if_pos (show nI v < 28 from nI_lt (b := 28) h (by decide))]
theorem pf_need {v w : Nat} (h : v < 28) (h2 : w < 28) : f_G_needNodes (nI v) (nI w) = some () := by
  unfold f_G_needNodes
  rw [fg_ob_s (pf_need1 h), fg_ob_s (pf_need1 h2)]
theorem pf_needU {v w : Nat} (h : v < 28) (h2 : w < 28) (hne : v ≠ w) : f_G_needUnlikeNodes (nI v) (nI w) = some () := by
  unfold f_G_needUnlikeNodes
  rw [fg_ob_s (pf_need h h2), if_neg (fun q => hne ((nI_eq (by omega) (by omega)).mp q))]
theorem pf_isNode {v : Nat} (h : v < 28) : f_M_isNode (nI v) = some 1 := by
  have h1 : f_M_in (nI v) 0 27 = some 1 := by
    unfold f_M_in
    rw [if_neg (nI_pos (by omega)), if_neg (show ¬ (27 : Int32) < nI v from nI_nlt (a := 27) (by omega) (by decide))]
  unfold f_M_isNode
  rw [fg_ob_s h1]; rfl
/-- promise 5: both lengths are alike -/
theorem pf_length {B E C O : fg_A} {n : Int32} {N a b : Nat} (Hw : wfm B E C O n N) (ha : a < 28) (hb : b < 28) (F K : fg_A) (t : Int32) :
    ∃ (F' K' : fg_A) (r : Int32), f_G_length B E O n F (nI a) (nI b) = some (r, F') ∧ f_M_length t n B E O K (nI a) (nI b) = some (r, 0, K') := by
  obtain ⟨F', h1, h2⟩ := pf_mw Hw hb F
  obtain ⟨K', h3, h4⟩ := pf_mm Hw hb K (-1)
  refine ⟨F', K', F' a, ?_, ?_⟩
  · unfold f_G_length
    rw [fg_ob_s (pf_need ha hb), fg_ob_s h1, fg_og_t (ix_nI ha (by decide)), nI_clamp (by omega)]
  · have e1 : f_M_refuse t 0 0 = some (0, 0) := rfl
    unfold f_M_length
    rw [fg_ob_s (pf_isNode ha), if_neg (by decide), fg_ob_s (pf_isNode hb), if_neg (by decide), fg_ob_s e1, if_pos rfl, fg_ob_s h3, fg_og_t (ix_nI ha (by decide)), nI_clamp (by omega), wf_same h2 (wf_all_congr (okm_m1 Hw) h4) ha]
