/-! What a way must pass. -/
/-- a way from a to b that keeps off v -/
def wo_ex (B E O : fg_A) (N a b v : Nat) : Prop := ∃ d, wk N (cl B) (cl E) (okm B E O (nI v)) d a b
theorem wo_cls {B E C O : fg_A} {n : Int32} {N v b : Nat} (Hw : wfm B E C O n N) (hv : v < 28) : ∀ {d a : Nat}, a ≠ v → wk N (cl B) (cl E) (okc E O ((1 : Int32) <<< (nI v &&& 31))) d a b → wk N (cl B) (cl E) (okm B E O (nI v)) d a b
  | 0, a, _, h => h
  | d + 1, a, ha, ⟨r, h1, h2, h3, h4⟩ => by
    obtain ⟨⟨hB, hB8⟩, ⟨hE, hE8⟩, -⟩ := Hw.2.2 r h1
    obtain ⟨o1, o2⟩ := okc_t.mp h2
    rw [mb_one v (by omega) _ (by omega), decide_eq_false_iff_not] at o2
    refine ⟨r, h1, okm_t.mpr ⟨o1, ?_, ?_⟩, h3, wo_cls Hw hv o2 h4⟩
    · rw [hB]; exact fun q => ha (h3.symm.trans ((nI_eq (by omega) (by omega)).mp q))
    · rw [hE]; exact fun q => o2 ((nI_eq (by omega) (by omega)).mp q)
theorem wo_cls2 {B E C O : fg_A} {n : Int32} {N v a b d : Nat} (Hw : wfm B E C O n N) (hv : v < 28) (h : wk N (cl B) (cl E) (okm B E O (nI v)) d a b) : wk N (cl B) (cl E) (okc E O ((1 : Int32) <<< (nI v &&& 31))) d a b := by
  refine wk_congr (fun r hr ho => ?_) h
  obtain ⟨-, ⟨hE, hE8⟩, -⟩ := Hw.2.2 r hr
  obtain ⟨o1, o2, o3⟩ := okm_t.mp ho
  refine okc_t.mpr ⟨o1, ?_⟩
  rw [mb_one v (by omega) _ (by omega), decide_eq_false_iff_not]
  exact fun q => o3 (by rw [hE, q])
theorem wo_far {B E C O : fg_A} {n : Int32} {N v a b : Nat} (Hw : wfm B E C O n N) (hv : v < 28) (hno : ¬ ∃ d, wk N (cl B) (cl E) (onb O) d a v) : ∀ {d x : Nat}, (∃ i, wk N (cl B) (cl E) (onb O) i a x) → wk N (cl B) (cl E) (onb O) d x b → wk N (cl B) (cl E) (okm B E O (nI v)) d x b
  | 0, x, _, h => h
  | d + 1, x, ⟨i, hi⟩, ⟨r, h1, h2, h3, h4⟩ => by
    obtain ⟨⟨hB, hB8⟩, ⟨hE, hE8⟩, -⟩ := Hw.2.2 r h1
    have hs := wk_snoc hi h1 h2 h3
    refine ⟨r, h1, okm_t.mpr ⟨onb_ne h2, ?_, ?_⟩, h3, wo_far Hw hv hno ⟨i + 1, hs⟩ h4⟩
    · rw [hB]; exact fun q => hno ⟨i, by rw [← (nI_eq (by omega) (by omega)).mp q, h3]; exact hi⟩
    · rw [hE]; exact fun q => hno ⟨i + 1, by rw [← (nI_eq (by omega) (by omega)).mp q]; exact hs⟩
def psd (B E O : fg_A) (N a b v : Nat) : Prop := v ≠ a ∧ v ≠ b ∧ ¬ wo_ex B E O N a b v
theorem mk_step {x : Int32} {i : Nat} {P : Nat → Prop} (hi : i < 28) (hx : ∀ v, v < 28 → (bt x v = true ↔ v < i ∧ P v)) :
    (¬ P i → ∀ v, v < 28 → (bt x v = true ↔ v < i + 1 ∧ P v)) ∧ (P i → ∀ v, v < 28 → (bt (x ||| ((1 : Int32) <<< (nI i &&& 31))) v = true ↔ v < i + 1 ∧ P v)) := by
  refine ⟨fun hn v hv => ?_, fun hp v hv => ?_⟩
  · rw [hx v hv]
    constructor
    · rintro ⟨a, p⟩; exact ⟨by omega, p⟩
    · rintro ⟨a, p⟩
      have hne : v ≠ i := fun e => by subst e; exact hn p
      exact ⟨by omega, p⟩
  · rw [mb_or (by omega) (by omega), Bool.or_eq_true, decide_eq_true_eq, hx v hv]
    constructor
    · rintro (⟨a, p⟩ | rfl)
      · exact ⟨by omega, p⟩
      · exact ⟨by omega, hp⟩
    · rintro ⟨a, p⟩
      by_cases e : v = i
      · exact Or.inr e
      · exact Or.inl ⟨by omega, p⟩
theorem pf_p36 {B E C O : fg_A} {n x3 : Int32} {N a b : Nat} (Hw : wfm B E C O n N) (ha : a < 28) (hb : b < 28) (h3 : ∀ v, bt x3 v = true ↔ ∃ d, wk N (cl B) (cl E) (onb O) d a v) (hway : ∃ d, wk N (cl B) (cl E) (onb O) d a b) :
    ∀ (k i : Nat) (x : Int32), i ≤ 28 → 28 < i + k → mk28 x → (∀ v, v < 28 → (bt x v = true ↔ v < i ∧ psd B E O N a b v)) → ∃ y, f_G_passed_36 B E O n (nI a) (nI b) x3 k x (nI i) = some y ∧ mk28 y ∧ ∀ v, v < 28 → (bt y v = true ↔ psd B E O N a b v) := by
  intro k
  induction k with
  | zero => intro i x hi hk; omega
  | succ k ih =>
    intro i x hi hk hx hbx
    rw [f_G_passed_36]
    rcases Nat.lt_or_ge i 28 with q | q
    · obtain ⟨miss, hit⟩ := mk_step q hbx
      have go : ¬ psd B E O N a b i → ∃ y, f_G_passed_36 B E O n (nI a) (nI b) x3 k x (nI (i + 1)) = some y ∧ mk28 y ∧ ∀ v, v < 28 → (bt y v = true ↔ psd B E O N a b v) := fun hn => ih (i + 1) x (by omega) (by omega) hx (miss hn)
      rw [if_neg (show ¬ (28 : Int32) ≤ nI i from nI_ge q (by decide)), nI_1]
      by_cases h1 : i = a
      · rw [if_pos (by rw [h1])]; exact go (fun p => p.1 h1)
      · rw [if_neg (fun z => h1 ((nI_eq (by omega) (by omega)).mp z))]
        by_cases h2 : i = b
        · rw [if_pos (by rw [h2])]; exact go (fun p => p.2.1 h2)
        · rw [if_neg (fun z => h2 ((nI_eq (by omega) (by omega)).mp z)), fg_ob_s (pf_has (by omega))]
          by_cases h4 : bt x3 i = true
          · rw [if_pos h4, if_neg (by decide), fg_ob_s (show f_G_bit (nI i) = some ((1 : Int32) <<< (nI i &&& 31)) from rfl)]
            obtain ⟨y, a1, a2, a3⟩ := pf_reach (z := (1 : Int32) <<< (nI i &&& 31)) Hw ha
            rw [fg_ob_s a1, fg_ob_s (pf_has (by omega))]
            by_cases h5 : bt y b = true
            · rw [if_pos h5, if_neg (by decide)]
              refine go (fun p => p.2.2 ?_)
              obtain ⟨d, hd⟩ := (a3 b).mp h5
              exact ⟨d, wo_cls Hw q (fun z => h1 z.symm) hd⟩
            · rw [if_neg h5, if_pos rfl, fg_ob_s (show f_G_bit (nI i) = some ((1 : Int32) <<< (nI i &&& 31)) from rfl)]
              exact ih (i + 1) _ (by omega) (by omega) (mk28_or hx q) (hit ⟨h1, h2, fun ⟨d, hd⟩ => h5 ((a3 b).mpr ⟨d, wo_cls2 Hw q hd⟩)⟩)
          · rw [if_neg h4, if_pos rfl]
            refine go (fun p => p.2.2 ?_)
            obtain ⟨d, hd⟩ := hway
            exact ⟨d, wo_far Hw q (fun z => h4 ((h3 i).mpr z)) ⟨0, rfl⟩ hd⟩
    · rw [if_pos (show (28 : Int32) ≤ nI i from nI_le q (by omega))]
      exact ⟨x, rfl, hx, fun v hv => by rw [hbx v hv]; exact ⟨fun h => h.2, fun h => ⟨by omega, h⟩⟩⟩
theorem pf_p56 {B E C O : fg_A} {n : Int32} {N a b : Nat} (Hw : wfm B E C O n N) (ha : a < 28) (hb : b < 28) :
    ∀ (k i : Nat) (x : Int32) (K : fg_A), i ≤ 28 → 28 < i + k → mk28 x → (∀ v, v < 28 → (bt x v = true ↔ v < i ∧ psd B E O N a b v)) → ∃ y K', f_M_passed_56 n B E O (nI a) (nI b) 1 k x (nI i) K = some (y, K') ∧ mk28 y ∧ ∀ v, v < 28 → (bt y v = true ↔ psd B E O N a b v) := by
  intro k
  induction k with
  | zero => intro i x K hi hk; omega
  | succ k ih =>
    intro i x K hi hk hx hbx
    rw [f_M_passed_56]
    rcases Nat.lt_or_ge i 28 with q | q
    · obtain ⟨miss, hit⟩ := mk_step q hbx
      have go : ∀ K2, ¬ psd B E O N a b i → ∃ y K', f_M_passed_56 n B E O (nI a) (nI b) 1 k x (nI (i + 1)) K2 = some (y, K') ∧ mk28 y ∧ ∀ v, v < 28 → (bt y v = true ↔ psd B E O N a b v) := fun K2 hn => ih (i + 1) x K2 (by omega) (by omega) hx (miss hn)
      rw [if_neg (show ¬ (28 : Int32) ≤ nI i from nI_ge q (by decide)), if_neg (show ¬ (1 : Int32) = 0 by decide), nI_1]
      by_cases h1 : i = a
      · rw [if_pos (by rw [h1])]; exact go K (fun p => p.1 h1)
      · rw [if_neg (fun z => h1 ((nI_eq (by omega) (by omega)).mp z))]
        by_cases h2 : i = b
        · rw [if_pos (by rw [h2])]; exact go K (fun p => p.2.1 h2)
        · rw [if_neg (fun z => h2 ((nI_eq (by omega) (by omega)).mp z))]
          obtain ⟨K', a1, a2⟩ := pf_mm Hw hb K (nI i)
          rw [fg_ob_s a1, fg_og_t (ix_nI ha (by decide)), nI_clamp (by omega)]
          have hw := wf_neg a2 ha
          by_cases h3 : 0 ≤ K' a
          · rw [if_pos h3]
            refine go K' (fun p => p.2.2 (hw.mp fun z => ?_))
            rw [Int32.lt_iff_toInt_lt] at z
            rw [Int32.le_iff_toInt_le] at h3
            omega
          · rw [if_neg h3]
            refine ih (i + 1) _ K' (by omega) (by omega) (mk28_or hx q) (hit ⟨h1, h2, fun z => ?_⟩)
            have := hw.mpr z
            rw [Int32.lt_iff_toInt_lt] at this
            rw [Int32.le_iff_toInt_le] at h3
            omega
    · rw [if_pos (show (28 : Int32) ≤ nI i from nI_le q (by omega))]
      exact ⟨x, K, rfl, hx, fun v hv => by rw [hbx v hv]; exact ⟨fun h => h.2, fun h => ⟨by omega, h⟩⟩⟩
/-- promise 7 -/
theorem pf_passed {B E C O : fg_A} {n : Int32} {N a b : Nat} (Hw : wfm B E C O n N) (ha : a < 28) (hb : b < 28) (K : fg_A) (t : Int32) : ∃ (y : Int32) (K' : fg_A), f_G_passed B E O n (nI a) (nI b) = some y ∧ f_M_passed t n B E O K (nI a) (nI b) = some (y, 0, K') := by
  obtain ⟨x3, a1, a2, a3⟩ := pf_reach (z := 0) Hw ha
  have a4 : ∀ v, bt x3 v = true ↔ ∃ d, wk N (cl B) (cl E) (onb O) d a v := fun v => by
    rw [a3 v]
    exact ⟨fun ⟨d, hd⟩ => ⟨d, wk_0.mp hd⟩, fun ⟨d, hd⟩ => ⟨d, wk_0.mpr hd⟩⟩
  obtain ⟨K1, c1, c2⟩ := pf_mm Hw hb K (-1)
  have c3 := wf_neg (wf_all_congr (okm_m1 Hw) c2) ha
  have e2 : f_M_refuse t 0 0 = some (0, 0) := rfl
  have z0 : ∀ v, v < 28 → (bt 0 v = true ↔ v < 0 ∧ psd B E O N a b v) := fun v _ => by rw [b_0]; exact ⟨fun h => (by cases h), fun h => absurd h.1 (Nat.not_lt_zero v)⟩
  by_cases h : bt x3 b = true
  · obtain ⟨y, g1, g2, g3⟩ := pf_p36 Hw ha hb a4 ((a4 b).mp h) fu 0 0 (by omega) (by decide) mk28_0 z0
    obtain ⟨y2, K', m1, m2, m3⟩ := pf_p56 Hw ha hb fu 0 0 K1 (by omega) (by decide) mk28_0 z0
    have e1 : y = y2 := mk_ext g2 m2 fun w hw => by
      cases h1 : bt y w <;> cases h2 : bt y2 w
      · rfl
      · rw [(g3 w hw).mpr ((m3 w hw).mp h2)] at h1; cases h1
      · rw [(m3 w hw).mpr ((g3 w hw).mp h1)] at h2; cases h2
      · rfl
    subst e1
    refine ⟨y, K', ?_, ?_⟩
    · unfold f_G_passed
      rw [fg_ob_s (pf_need ha hb), fg_ob_s a1, fg_ob_s (pf_has (by omega)), if_pos h, if_neg (by decide), fg_ob_s (show f_G_passed_36 B E O n (nI a) (nI b) x3 fu 0 0 = some y from g1)]
    · unfold f_M_passed
      rw [fg_ob_s (pf_isNode ha), if_neg (by decide), fg_ob_s (pf_isNode hb), if_neg (by decide), fg_ob_s e2]
      dsimp only
      rw [if_pos rfl, fg_ob_s c1, fg_og_t (ix_nI ha (by decide)), nI_clamp (by omega), if_neg (c3.mpr ((a4 b).mp h)), fg_ob_s (show f_M_passed_56 n B E O (nI a) (nI b) 1 fu 0 0 K1 = some (y, K') from m1)]
  · refine ⟨0, K1, ?_, ?_⟩
    · unfold f_G_passed
      rw [fg_ob_s (pf_need ha hb), fg_ob_s a1, fg_ob_s (pf_has (by omega)), if_neg h, if_pos rfl]
    · have hneg : K1 a < 0 := Classical.byContradiction fun z => h ((a4 b).mpr (c3.mp z))
      have m1 : f_M_passed_56 n B E O (nI a) (nI b) 0 fu 0 0 K1 = some (0, K1) := by
        show f_M_passed_56 n B E O (nI a) (nI b) 0 (999 + 1) 0 0 K1 = _
        rw [f_M_passed_56, if_neg (by decide), if_pos rfl]
      unfold f_M_passed
      rw [fg_ob_s (pf_isNode ha), if_neg (by decide), fg_ob_s (pf_isNode hb), if_neg (by decide), fg_ob_s e2]
      dsimp only
      rw [if_pos rfl, fg_ob_s c1, fg_og_t (ix_nI ha (by decide)), nI_clamp (by omega), if_pos hneg, fg_ob_s m1]
