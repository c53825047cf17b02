/-! Steps of the least way. -/
/-- rule r leads from a to a node one nearer -/
def lp_P (B E O F : fg_A) (a r : Nat) : Prop := ¬ O r = 0 ∧ cl B r = a ∧ F (cl E r) = F a - 1
def lp_min (B E O F : fg_A) (N a r : Nat) : Prop := r < N ∧ lp_P B E O F a r ∧ ∀ q, q < r → ¬ lp_P B E O F a q
theorem pf_lro {B E C O : fg_A} {n : Int32} {N a : Nat} (Hw : wfm B E C O n N) (ha : a < 28) {F : fg_A} {r : Nat} (hr : lp_min B E O F N a r) :
    ∀ (k i : Nat), i ≤ r → N < i + k → f_G_leastRuleOnward_2 B E O n F (nI a) k (nI i) = some (nI r) := by
  obtain ⟨hN, hn, hw⟩ := id Hw
  obtain ⟨h1, h2, h3⟩ := hr
  intro k
  induction k with
  | zero => intro i hi hk; omega
  | succ k ih =>
    intro i hi hk
    have q : i < N := by omega
    obtain ⟨⟨hB, hB8⟩, ⟨hE, hE8⟩, -⟩ := hw i q
    have h90 : ix (nI i) 90 = true := ix_nI (by omega) (by decide)
    have hci : (nI i).toNatClampNeg = i := nI_clamp (by omega)
    have hcE : (E i).toNatClampNeg = cl E i := rfl
    have hxE : ix (E i) 28 = true := by rw [hE]; exact ix_nI hE8 (by decide)
    have hca : (nI a).toNatClampNeg = a := nI_clamp (by omega)
    rw [f_G_leastRuleOnward_2, if_neg (show ¬ n ≤ nI i by rw [hn]; exact nI_ge q (by omega)), fg_og_t h90, hci, nI_1]
    have go : ¬ lp_P B E O F a i → f_G_leastRuleOnward_2 B E O n F (nI a) k (nI (i + 1)) = some (nI r) := fun hp => by
      have hne : i ≠ r := fun x => hp (by rw [x]; exact h2)
      exact ih (i + 1) (by omega) (by omega)
    by_cases hO : O i = 0
    · rw [if_pos hO]; exact go (fun p => p.1 hO)
    · rw [if_neg hO, fg_og_t h90]
      by_cases hBa : B i = nI a
      · have hBa2 : cl B i = a := (nI_eq (by omega) (by omega)).mp (hB.symm.trans hBa)
        rw [if_pos hBa, fg_og_t h90, fg_og_t hxE, fg_og_t (ix_nI ha (by decide)), hcE, hca]
        by_cases hF : F (cl E i) = F a - 1
        · rw [if_pos hF]
          have e1 : i = r := by
            rcases Nat.lt_or_ge i r with w | w
            · exact absurd ⟨hO, hBa2, hF⟩ (h3 i w)
            · omega
          rw [e1]
        · rw [if_neg hF]; exact go (fun p => hF p.2.2)
      · rw [if_neg hBa]; exact go (fun p => hBa (by rw [hB, p.2.1]))
/-- the number below j: -1 below 0 -/
def pmI (j : Nat) : Int32 := match j with
  | 0 => -1
  | j + 1 => nI j
theorem pmI_dec (j : Nat) : pmI (j + 1) + (-1) = pmI j := by
  cases j with
  | zero => decide
  | succ j => exact pk_m1 j
theorem pmI_sub (j : Nat) : nI j - 1 = pmI j := by
  cases j with
  | zero => decide
  | succ j => exact nI_pred j
theorem pf_ls112 {B E C O : fg_A} {n : Int32} {N a : Nat} (Hw : wfm B E C O n N) (ha : a < 28) {F : fg_A} {r : Nat} (hr : lp_min B E O F N a r) (x3 x7 : Int32) :
    ∀ (k j : Nat) (y : Int32), j ≤ N → j < k → (j ≤ r → y = nI r) → f_M_step_112 B E O F x3 (nI a) x7 k y (pmI j) = some (nI r) := by
  obtain ⟨hN, hn, hw⟩ := id Hw
  obtain ⟨h1, h2, h3⟩ := hr
  intro k
  induction k with
  | zero => intro j y hj hk; omega
  | succ k ih =>
    intro j y hj hk hy
    rw [f_M_step_112]
    cases j with
    | zero =>
      rw [if_pos (show pmI 0 < 0 by decide), hy (Nat.zero_le r)]
    | succ i =>
      have q : i < N := by omega
      obtain ⟨⟨hB, hB8⟩, ⟨hE, hE8⟩, -⟩ := hw i q
      have h90 : ix (nI i) 90 = true := ix_nI (by omega) (by decide)
      have hci : (nI i).toNatClampNeg = i := nI_clamp (by omega)
      have hcE : (E i).toNatClampNeg = cl E i := rfl
      have hxE : ix (E i) 28 = true := by rw [hE]; exact ix_nI hE8 (by decide)
      have hca : (nI a).toNatClampNeg = a := nI_clamp (by omega)
      rw [pmI_dec]
      show (if nI i < 0 then _ else _) = _
      rw [if_neg (nI_pos (by omega))]
      show fg_og (ix (nI i) 90) _ = _
      rw [fg_og_t h90]
      show (if O (nI i).toNatClampNeg = 0 then _ else fg_og (ix (nI i) 90) (if B (nI i).toNatClampNeg = nI a then fg_og (ix (nI i) 90) (fg_og (ix (E (nI i).toNatClampNeg) 28) (fg_og (ix (nI a) 28) (if F (E (nI i).toNatClampNeg).toNatClampNeg = F (nI a).toNatClampNeg - 1 then f_M_step_112 B E O F x3 (nI a) x7 k (nI i) (pmI i) else f_M_step_112 B E O F x3 (nI a) x7 k y (pmI i)))) else f_M_step_112 B E O F x3 (nI a) x7 k y (pmI i))) = _
      rw [hci]
      have go : ¬ lp_P B E O F a i → f_M_step_112 B E O F x3 (nI a) x7 k y (pmI i) = some (nI r) := fun hp => by
        have hne : i ≠ r := fun x => hp (by rw [x]; exact h2)
        exact ih i y (by omega) (by omega) (fun w => hy (by omega))
      by_cases hO : O i = 0
      · rw [if_pos hO]; exact go (fun p => p.1 hO)
      · rw [if_neg hO, fg_og_t h90]
        by_cases hBa : B i = nI a
        · have hBa2 : cl B i = a := (nI_eq (by omega) (by omega)).mp (hB.symm.trans hBa)
          rw [if_pos hBa, fg_og_t h90, fg_og_t hxE, fg_og_t (ix_nI ha (by decide)), hcE, hca]
          by_cases hF : F (cl E i) = F a - 1
          · rw [if_pos hF]
            refine ih i (nI i) (by omega) (by omega) (fun w => ?_)
            have e1 : i = r := by
              rcases Nat.lt_or_ge i r with z | z
              · exact absurd ⟨hO, hBa2, hF⟩ (h3 i z)
              · omega
            rw [e1]
          · rw [if_neg hF]; exact go (fun p => hF p.2.2)
        · rw [if_neg hBa]; exact go (fun p => hBa (by rw [hB, p.2.1]))
/-- a way goes on from a node that has one -/
theorem lp_ex {B E C O : fg_A} {n : Int32} {N t a d : Nat} (Hw : wfm B E C O n N) (ha : a < 28) (hd : d < 28) {F : fg_A} (hF : wf_all N (cl B) (cl E) (onb O) t F) (hFa : F a = nI (d + 1)) :
    ∃ r, lp_min B E O F N a r ∧ F (cl E r) = nI d := by
  have h1 : ∃ r, r < N ∧ lp_P B E O F a r := by
    rcases hF a ha with ⟨d2, a1, a2, a3⟩ | ⟨a1, -⟩
    · have e1 : d2 = d + 1 := (nI_eq (by omega) (by omega)).mp (a2.symm.trans hFa)
      subst e1
      obtain ⟨r, b1, b2, b3, b4⟩ := wd_next a3
      refine ⟨r, b1, onb_ne b2, b3, ?_⟩
      rcases hF (cl E r) (Hw.e28 r b1) with ⟨d3, c1, c2, c3⟩ | ⟨-, c2⟩
      · rw [c2, wd_unique c3 b4, hFa, nI_pred]
      · exact absurd b4.1 (c2 d)
    · rw [a1] at hFa; exact absurd hFa.symm (nI_m1 (by omega))
  obtain ⟨r, ⟨h2, h3⟩, h4⟩ := pk_least (fun r => r < N ∧ lp_P B E O F a r) h1
  refine ⟨r, ⟨h2, h3, fun q hq hp => h4 q hq ⟨by omega, hp⟩⟩, ?_⟩
  rw [h3.2.2, hFa, nI_pred]
/-- both walk the least way alike -/
theorem pf_walk {B E C O : fg_A} {n : Int32} {N t k0 : Nat} (Hw : wfm B E C O n N) (hk0 : k0 < 1000) {F K : fg_A} (hF : wf_all N (cl B) (cl E) (onb O) t F) (hK : wf_all N (cl B) (cl E) (onb O) t K) :
    ∀ (k i a d : Nat) (y : Int32), a < 28 → F a = nI d → d ≤ 28 → i ≤ k0 + 1 → k0 + 1 ≤ i + d → k0 + 1 < i + k →
      ∃ r, f_G_ruleOfLeastWay_8 B E O n F (nI k0) k (nI a) y (nI i) = some r ∧ f_M_step_95 n B E O K (nI k0) k (nI a) y (nI i) = some r := by
  intro k
  induction k with
  | zero => intro i a d y ha hFa hd hi hid hk; omega
  | succ k ih =>
    intro i a d y ha hFa hd hi hid hk
    rw [f_G_ruleOfLeastWay_8, f_M_step_95]
    rcases Nat.lt_or_ge k0 i with q | q
    · rw [if_pos (nI_lt q (by omega)), if_pos (nI_lt q (by omega))]
      exact ⟨y, rfl, rfl⟩
    · rw [if_neg (nI_nlt q (by omega)), if_neg (nI_nlt q (by omega))]
      obtain ⟨d, rfl⟩ : ∃ j, d = j + 1 := ⟨d - 1, by omega⟩
      obtain ⟨r, hr, hr2⟩ := lp_ex Hw ha (by omega) hF hFa
      have hrN : r < N := hr.1
      have hKr : lp_min B E O K N a r := by
        obtain ⟨c1, c2, c3⟩ := hr
        have sw : ∀ z, z < N → (lp_P B E O K a z ↔ lp_P B E O F a z) := fun z hz => by
          unfold lp_P
          rw [wf_same hK hF (Hw.e28 z hz), wf_same hK hF ha]
        exact ⟨c1, (sw r c1).mpr c2, fun z hz hp => c3 z hz ((sw z (by omega)).mp hp)⟩
      have g1 : f_G_leastRuleOnward B E O n F (nI a) = some (nI r) := pf_lro Hw ha hr fu 0 (Nat.zero_le r) (by show N < 0 + 1000; have := Hw.1; omega)
      have g2 : f_M_step_112 B E O K (nI k0) (nI a) (nI i) fu (-1) (n - 1) = some (nI r) := by
        rw [Hw.2.1, pmI_sub]
        exact pf_ls112 Hw ha hKr (nI k0) (nI i) fu N (-1) (Nat.le_refl N) (by show N < 1000; have := Hw.1; omega) (fun w => by omega)
      obtain ⟨-, ⟨hE, hE8⟩, -⟩ := Hw.2.2 r hrN
      have h90 : ix (nI r) 90 = true := ix_nI (by have := Hw.1; omega) (by decide)
      have hcr : (nI r).toNatClampNeg = r := nI_clamp (by have := Hw.1; omega)
      rw [fg_ob_s g1, fg_ob_s g2, if_neg (nI_m1 (by have := Hw.1; omega)), fg_og_t h90, fg_og_t h90, hcr, hE, nI_1]
      exact ih (i + 1) (cl E r) d (nI r) hE8 hr2 (by omega) (by omega) (by omega) (by omega)
/-- promise 6: rule k of the least way, where it has one -/
theorem pf_step {B E C O : fg_A} {n : Int32} {N a b k0 d : Nat} (Hw : wfm B E C O n N) (ha : a < 28) (hb : b < 28) (F K : fg_A) (t : Int32) {F' K' : fg_A}
    (h1 : f_G_measureWaysTo B E O n F (nI b) = some F') (h2 : wf_all N (cl B) (cl E) (onb O) b F') (h3 : f_M_measure n B E O K (nI b) (-1) = some K') (h4 : wf_all N (cl B) (cl E) (onb O) b K') (hd : F' a = nI d) (hd8 : d ≤ 28) (hk : k0 < d) :
    ∃ r, f_G_step B E O n F (nI a) (nI b) (nI k0) = some (r, F') ∧ f_M_step t n B E O K (nI a) (nI b) (nI k0) = some (r, 0, K') := by
  obtain ⟨r, g1, g2⟩ := pf_walk (k0 := k0) Hw (by omega) h2 h4 fu 0 a d (-1) ha hd hd8 (by omega) (by omega) (by show k0 + 1 < 0 + 1000; omega)
  have hKa : K' a = nI d := by rw [← wf_same h2 h4 ha]; exact hd
  refine ⟨r, ?_, ?_⟩
  · have g3 : f_G_ruleOfLeastWay B E O n F' (nI a) (nI k0) = some r := g1
    unfold f_G_step
    rw [fg_ob_s (pf_need ha hb), fg_ob_s h1, if_neg (nI_pos (by omega)), fg_og_t (ix_nI ha (by decide)), nI_clamp (by omega), hd, if_pos (nI_lt hk (by omega)), fg_ob_s g3]
  · have e1 : f_M_refuse t 0 0 = some (0, 0) := rfl
    obtain ⟨d, rfl⟩ : ∃ j, d = j + 1 := ⟨d - 1, by omega⟩
    have e2 : f_M_in (nI k0) 0 (nI (d + 1) - 1) = some 1 := by
      unfold f_M_in
      rw [nI_pred, if_neg (nI_pos (by omega)), if_neg (nI_nlt (by omega) (by omega))]
    unfold f_M_step
    rw [fg_ob_s (pf_isNode ha), if_neg (by decide), fg_ob_s (pf_isNode hb), if_neg (by decide), fg_ob_s h3, fg_og_t (ix_nI ha (by decide)), nI_clamp (by omega), hKa, fg_ob_s e2, if_neg (by decide), fg_ob_s e1, if_pos rfl]
    rw [fg_ob_s (show f_M_step_95 n B E O K' (nI k0) fu (nI a) (-1) 0 = some r from g2)]
