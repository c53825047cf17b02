/-! Each call of the law: both answer alike, or both refuse alike. -/
theorem fg_ob_ss {α β : Type} {k : α → Option β} {a : α} : fg_ob (some a) k = k a := rfl
theorem fg_ot_s {β : Type} {y : Option β} {a : β} : fg_ot (some a) y = some a := rfl
theorem fg_ot_n {β : Type} {y : Option β} : fg_ot none y = y := rfl
theorem rf_11 (t : Int32) : f_M_refuse t 1 1 = some (1, 1) := rfl
theorem rf_10 (t : Int32) : f_M_refuse t 1 0 = some (1, 1) := rfl
theorem rf_01 (t : Int32) : f_M_refuse t 0 1 = some (1, 2) := rfl
theorem rf_00 (t : Int32) : f_M_refuse t 0 0 = some (0, 0) := rfl
theorem i10 : ¬ (1 : Int32) = 0 := by decide
theorem i32_lt {a b : Int32} : ¬ a < b ↔ b ≤ a := by rw [Int32.lt_iff_toInt_lt, Int32.le_iff_toInt_le]; omega
theorem nd_cases (x : Int32) : (∃ v, v < 28 ∧ x = nI v) ∨ (t_G_needNode x = some 0 ∧ f_M_isNode x = some 0) := by
  by_cases h : x < 0
  · refine Or.inr ⟨?_, ?_⟩
    · unfold t_G_needNode; rw [if_pos h]
    · unfold f_M_isNode f_M_in; rw [if_pos h]; rfl
  · by_cases h2 : x < 28
    · exact Or.inl (nd_of h h2)
    · refine Or.inr ⟨?_, ?_⟩
      · unfold t_G_needNode; rw [if_neg h, if_neg h2]
      · have h3 : (27 : Int32) < x := by
          rw [Int32.lt_iff_toInt_lt] at h2 ⊢
          have e1 : (28 : Int32).toInt = 28 := by decide
          have e2 : (27 : Int32).toInt = 27 := by decide
          omega
        unfold f_M_isNode f_M_in; rw [if_neg h, if_pos h3]; rfl
theorem t_node {v : Nat} (h : v < 28) : t_G_needNode (nI v) = none := by
  unfold t_G_needNode
  rw [if_neg (nI_pos (by omega)), if_pos (show nI v < 28 from nI_lt (b := 28) h (by decide))]
/-- two nodes: both are there, or the call is refused -/
theorem nd2_cases (x y : Int32) : (∃ v w, v < 28 ∧ w < 28 ∧ x = nI v ∧ y = nI w) ∨ (t_G_needNodes x y = some 0 ∧ (f_M_isNode x = some 0 ∨ f_M_isNode x = some 1 ∧ f_M_isNode y = some 0)) := by
  rcases nd_cases x with ⟨v, hv, rfl⟩ | ⟨h1, h2⟩
  · rcases nd_cases y with ⟨w, hw, rfl⟩ | ⟨h1, h2⟩
    · exact Or.inl ⟨v, w, hv, hw, rfl, rfl⟩
    · refine Or.inr ⟨?_, Or.inr ⟨pf_isNode hv, h2⟩⟩
      unfold t_G_needNodes
      simp only [t_node hv, pf_need1 hv, h1, fg_ot_n, fg_ob_ss, fg_ot_s]
  · refine Or.inr ⟨?_, Or.inl h2⟩
    unfold t_G_needNodes
    simp only [h1, fg_ot_s]
theorem t_nodes {v w : Nat} (h : v < 28) (h2 : w < 28) : t_G_needNodes (nI v) (nI w) = none := by
  unfold t_G_needNodes
  simp only [t_node h, t_node h2, pf_need1 h, pf_need1 h2, fg_ot_n, fg_ob_ss]
/-- two unlike nodes -/
theorem nu_cases (x y : Int32) : (∃ v w, v < 28 ∧ w < 28 ∧ v ≠ w ∧ x = nI v ∧ y = nI w) ∨ (t_G_needUnlikeNodes x y = some 0 ∧ f_M_areUnlike x y = some 0) := by
  rcases nd2_cases x y with ⟨v, w, hv, hw, rfl, rfl⟩ | ⟨h1, h2⟩
  · by_cases q : v = w
    · refine Or.inr ⟨?_, ?_⟩
      · unfold t_G_needUnlikeNodes
        simp only [t_nodes hv hw, pf_need hv hw, fg_ot_n, fg_ob_ss]
        rw [if_pos (by rw [q])]
      · unfold f_M_areUnlike
        simp only [pf_isNode hv, pf_isNode hw, fg_ob_ss, if_neg i10]
        rw [if_pos (by rw [q])]
    · exact Or.inl ⟨v, w, hv, hw, q, rfl, rfl⟩
  · refine Or.inr ⟨?_, ?_⟩
    · unfold t_G_needUnlikeNodes
      simp only [h1, fg_ot_s]
    · unfold f_M_areUnlike
      rcases h2 with h2 | ⟨h2, h3⟩
      · simp only [h2, fg_ob_ss, if_true]
      · simp only [h2, h3, fg_ob_ss, if_neg i10, if_true]
theorem t_unlike {v w : Nat} (h : v < 28) (h2 : w < 28) (h3 : v ≠ w) : t_G_needUnlikeNodes (nI v) (nI w) = none := by
  unfold t_G_needUnlikeNodes
  simp only [t_nodes h h2, pf_need h h2, fg_ot_n, fg_ob_ss]
  rw [if_neg (fun z => h3 ((nI_eq (by omega) (by omega)).mp z))]
theorem op_length {B E C O : fg_A} {n : Int32} {N : Nat} (Hw : wfm B E C O n N) (p0 p1 : Int32) (F K : fg_A) (t : Int32) :
    (∃ r F' K', t_G_length B E O n F p0 p1 = none ∧ f_G_length B E O n F p0 p1 = some (r, F') ∧ f_M_length t n B E O K p0 p1 = some (r, 0, K')) ∨ (t_G_length B E O n F p0 p1 = some 0 ∧ ∃ r K', f_M_length t n B E O K p0 p1 = some (r, 1, K')) := by
  rcases nd2_cases p0 p1 with ⟨v, w, hv, hw, rfl, rfl⟩ | ⟨h1, h2⟩
  · obtain ⟨F', K', r, a1, a2⟩ := pf_length Hw hv hw F K t
    exact Or.inl ⟨r, F', K', by unfold t_G_length; simp only [t_nodes hv hw, pf_need hv hw, fg_ot_n, fg_ob_ss], a1, a2⟩
  · refine Or.inr ⟨?_, 0, K, ?_⟩
    · unfold t_G_length; simp only [h1, fg_ot_s]
    · unfold f_M_length
      rcases h2 with h2 | ⟨h2, h3⟩
      · simp only [h2, fg_ob_ss, if_true, rf_10, if_neg i10]
      · simp only [h2, h3, fg_ob_ss, if_true, rf_10, if_neg i10]
theorem op_passed {B E C O : fg_A} {n : Int32} {N : Nat} (Hw : wfm B E C O n N) (p0 p1 : Int32) (K : fg_A) (t : Int32) :
    (∃ r K', t_G_passed B E O n p0 p1 = none ∧ f_G_passed B E O n p0 p1 = some r ∧ f_M_passed t n B E O K p0 p1 = some (r, 0, K')) ∨ (t_G_passed B E O n p0 p1 = some 0 ∧ ∃ r K', f_M_passed t n B E O K p0 p1 = some (r, 1, K')) := by
  rcases nd2_cases p0 p1 with ⟨v, w, hv, hw, rfl, rfl⟩ | ⟨h1, h2⟩
  · obtain ⟨r, K', a1, a2⟩ := pf_passed Hw hv hw K t
    exact Or.inl ⟨r, K', by unfold t_G_passed; simp only [t_nodes hv hw, pf_need hv hw, fg_ot_n, fg_ob_ss], a1, a2⟩
  · refine Or.inr ⟨?_, 0, K, ?_⟩
    · unfold t_G_passed; simp only [h1, fg_ot_s]
    · unfold f_M_passed
      rcases h2 with h2 | ⟨h2, h3⟩
      · simp only [h2, fg_ob_ss, if_true, rf_10, if_neg i10]
      · simp only [h2, h3, fg_ob_ss, if_true, rf_10, if_neg i10]
theorem op_circle {B E C O : fg_A} {n : Int32} {N : Nat} (Hw : wfm B E C O n N) (p0 : Int32) (K : fg_A) (t : Int32) :
    (∃ r K', t_G_circle B E O n p0 = none ∧ f_G_circle B E O n p0 = some r ∧ f_M_circle t n B E O K p0 = some (r, 0, K')) ∨ (t_G_circle B E O n p0 = some 0 ∧ ∃ r K', f_M_circle t n B E O K p0 = some (r, 1, K')) := by
  rcases nd_cases p0 with ⟨v, hv, rfl⟩ | ⟨h1, h2⟩
  · obtain ⟨r, K', a1, a2⟩ := pf_circle Hw hv K t
    exact Or.inl ⟨r, K', by unfold t_G_circle; simp only [t_node hv, pf_need1 hv, fg_ot_n, fg_ob_ss], a1, a2⟩
  · refine Or.inr ⟨?_, 0, K, ?_⟩
    · unfold t_G_circle; simp only [h1, fg_ot_s]
    · unfold f_M_circle
      simp only [h2, fg_ob_ss, if_true, rf_10, if_neg i10]
theorem op_cut {B E C O : fg_A} {n : Int32} {N : Nat} (Hw : wfm B E C O n N) (p0 p1 : Int32) (L V L2 V2 : fg_A) (t : Int32) :
    (∃ r L' V' L3 V3, t_G_cut B E C O n L V p0 p1 = none ∧ f_G_cut B E C O n L V p0 p1 = some (r, L', V') ∧ f_M_cut t n B E C O L2 V2 p0 p1 = some (r, 0, L3, V3)) ∨ (t_G_cut B E C O n L V p0 p1 = some 0 ∧ ∃ r L3 V3, f_M_cut t n B E C O L2 V2 p0 p1 = some (r, 1, L3, V3)) := by
  rcases nu_cases p0 p1 with ⟨v, w, hv, hw, hne, rfl, rfl⟩ | ⟨h1, h2⟩
  · obtain ⟨r, L', V', L3, V3, a1, a2⟩ := pf_cut Hw hv hw hne L V L2 V2 t
    exact Or.inl ⟨r, L', V', L3, V3, by unfold t_G_cut; simp only [t_unlike hv hw hne, pf_needU hv hw hne, fg_ot_n, fg_ob_ss], a1, a2⟩
  · refine Or.inr ⟨?_, 0, L2, V2, ?_⟩
    · unfold t_G_cut; simp only [h1, fg_ot_s]
    · unfold f_M_cut
      simp only [h2, fg_ob_ss, if_true, rf_10, if_neg i10]
theorem op_left {B E C O : fg_A} {n : Int32} {N : Nat} (Hw : wfm B E C O n N) (p0 p1 : Int32) (L V L2 V2 : fg_A) (t : Int32) :
    (∃ r L' V' L3 V3, t_G_left B E C O n L V p0 p1 = none ∧ f_G_left B E C O n L V p0 p1 = some (r, L', V') ∧ f_M_left t n B E C O L2 V2 p0 p1 = some (r, 0, L3, V3)) ∨ (t_G_left B E C O n L V p0 p1 = some 0 ∧ ∃ r L3 V3, f_M_left t n B E C O L2 V2 p0 p1 = some (r, 1, L3, V3)) := by
  rcases nu_cases p0 p1 with ⟨v, w, hv, hw, hne, rfl, rfl⟩ | ⟨h1, h2⟩
  · obtain ⟨r, L', V', L3, V3, a1, a2⟩ := pf_left Hw hv hw hne L V L2 V2 t
    exact Or.inl ⟨r, L', V', L3, V3, by unfold t_G_left; simp only [t_unlike hv hw hne, pf_needU hv hw hne, fg_ot_n, fg_ob_ss], a1, a2⟩
  · refine Or.inr ⟨?_, 0, L2, V2, ?_⟩
    · unfold t_G_left; simp only [h1, fg_ot_s]
    · unfold f_M_left
      simp only [h2, fg_ob_ss, if_true, rf_10, if_neg i10]
theorem op_cutRule {B E C O : fg_A} {n : Int32} {N : Nat} (Hw : wfm B E C O n N) (p0 p1 p2 : Int32) (L V L2 V2 : fg_A) (t : Int32) :
    (∃ r L' V' L3 V3, t_G_cutRule B E C O n L V p0 p1 p2 = none ∧ f_G_cutRule B E C O n L V p0 p1 p2 = some (r, L', V') ∧ f_M_cutRule t n B E C O L2 V2 p0 p1 p2 = some (r, 0, L3, V3)) ∨ (t_G_cutRule B E C O n L V p0 p1 p2 = some 0 ∧ ∃ r L3 V3, f_M_cutRule t n B E C O L2 V2 p0 p1 p2 = some (r, 1, L3, V3)) := by
  rcases nu_cases p0 p1 with ⟨v, w, hv, hw, hne, rfl, rfl⟩ | ⟨h1, h2⟩
  · by_cases hk : 0 ≤ p2
    · obtain ⟨r, L', V', L3, V3, a1, a2⟩ := pf_cutRule Hw hv hw hne hk L V L2 V2 t
      exact Or.inl ⟨r, L', V', L3, V3, by unfold t_G_cutRule; simp only [t_unlike hv hw hne, pf_needU hv hw hne, fg_ot_n, fg_ob_ss, if_pos hk], a1, a2⟩
    · refine Or.inr ⟨?_, 0, L2, V2, ?_⟩
      · unfold t_G_cutRule
        simp only [t_unlike hv hw hne, pf_needU hv hw hne, fg_ot_n, fg_ob_ss, if_neg hk]
      · unfold f_M_cutRule
        simp only [pf_unlike hv hw hne, fg_ob_ss, if_neg i10, if_neg hk, rf_10]
  · refine Or.inr ⟨?_, 0, L2, V2, ?_⟩
    · unfold t_G_cutRule; simp only [h1, fg_ot_s]
    · unfold f_M_cutRule
      simp only [h2, fg_ob_ss, if_true, rf_10, if_neg i10]
theorem op_circles {B E C O : fg_A} {n : Int32} {N : Nat} (Hw : wfm B E C O n N) (K : fg_A) (t : Int32) : ∃ r K', f_G_circles B E O n = some r ∧ f_M_circles t n B E O K = some (r, 0, K') := pf_circles Hw K t
theorem nI_lt_m1 {j : Nat} (h : j < 2 ^ 31) : pmI 0 < nI j := by
  rw [Int32.lt_iff_toInt_lt, nI_toInt h]
  have : (pmI 0).toInt = -1 := by decide
  omega
theorem not_lt_m1 {j : Nat} (h : j < 2 ^ 31) : ¬ nI j < -1 := by
  rw [Int32.lt_iff_toInt_lt, nI_toInt h]
  have : (-1 : Int32).toInt = -1 := by decide
  omega
theorem lt_m2 {j : Nat} (h : j < 2 ^ 31) : (-1 : Int32) - 1 < nI j := by
  rw [Int32.lt_iff_toInt_lt, nI_toInt h]
  have : ((-1 : Int32) - 1).toInt = -2 := by decide
  omega
theorem op_step {B E C O : fg_A} {n : Int32} {N : Nat} (Hw : wfm B E C O n N) (p0 p1 p2 : Int32) (F K : fg_A) (t : Int32) :
    (∃ r F' K', t_G_step B E O n F p0 p1 p2 = none ∧ f_G_step B E O n F p0 p1 p2 = some (r, F') ∧ f_M_step t n B E O K p0 p1 p2 = some (r, 0, K')) ∨ (∃ F', t_G_step B E O n F p0 p1 p2 = some (0, F') ∧ ∃ r K', f_M_step t n B E O K p0 p1 p2 = some (r, 1, K')) ∨ (∃ F', t_G_step B E O n F p0 p1 p2 = some (2, F') ∧ ∃ r K', f_M_step t n B E O K p0 p1 p2 = some (r, 2, K')) := by
  rcases nd2_cases p0 p1 with ⟨v, w, hv, hw, rfl, rfl⟩ | ⟨h1, h2⟩
  · obtain ⟨F', a1, a2⟩ := pf_mw Hw hw F
    obtain ⟨K', c1, c2⟩ := pf_mm Hw hw K (-1)
    have c3 := wf_all_congr (okm_m1 Hw) c2
    have hcv : (nI v).toNatClampNeg = v := nI_clamp (by omega)
    have hxv : ix (nI v) 28 = true := ix_nI hv (by decide)
    have hFK : K' v = F' v := wf_same c3 a2 hv
    -- refused for k
    have bad : (p2 < 0 ∨ ¬ p2 < F' v) → ∃ F', t_G_step B E O n F (nI v) (nI w) p2 = some (2, F') ∧ ∃ r K', f_M_step t n B E O K (nI v) (nI w) p2 = some (r, 2, K') := fun hb => by
      refine ⟨F', ?_, 0, K', ?_⟩
      · unfold t_G_step
        simp only [t_nodes hv hw, pf_need hv hw, fg_ot_n, fg_ob_ss, a1, hxv, hcv, fg_og_tt]
        by_cases z : p2 < 0
        · simp only [fg_ob, fg_ot_n, if_pos z]
        · have z2 := hb.resolve_left z
          simp only [fg_ob, fg_ot_n, if_neg z, if_neg z2]
      · have hin : f_M_in p2 0 (K' v - 1) = some 0 := by
          unfold f_M_in
          by_cases z : p2 < 0
          · rw [if_pos z]
          · have z2 := hb.resolve_left z
            rw [if_neg z, if_pos]
            rw [hFK]
            rcases a2 v hv with ⟨d, d1, d2, -⟩ | ⟨d2, -⟩
            · rw [d2] at z2 ⊢
              obtain ⟨j, hj, rfl⟩ := nI_of z
              rw [pmI_sub]
              have z3 : ¬ j < d := fun q => z2 (nI_lt q (by omega))
              cases d with
              | zero => exact nI_lt_m1 hj
              | succ d => exact nI_lt (by omega) hj
            · rw [d2]
              obtain ⟨j, hj, rfl⟩ := nI_of z
              exact lt_m2 hj
        unfold f_M_step
        simp only [pf_isNode hv, pf_isNode hw, fg_ob_ss, if_neg i10, c1, hxv, hcv, fg_og_tt, hin, if_true, rf_01]
    by_cases z : p2 < 0
    · exact Or.inr (Or.inr (bad (Or.inl z)))
    · by_cases z2 : p2 < F' v
      · obtain ⟨j, hj, rfl⟩ := nI_of z
        rcases a2 v hv with ⟨d, d1, d2, -⟩ | ⟨d2, -⟩
        · rw [d2] at z2
          obtain ⟨r, g1, g2⟩ := pf_step Hw hv hw F K t a1 a2 c1 c3 d2 d1 ((nI_ltI hj (by omega)).mp z2)
          refine Or.inl ⟨r, F', K', ?_, g1, g2⟩
          unfold t_G_step
          simp only [t_nodes hv hw, pf_need hv hw, fg_ob_ss, a1, hxv, hcv, fg_og_tt, if_neg z, d2, if_pos z2]
          rfl
        · rw [d2] at z2
          exact absurd z2 (not_lt_m1 hj)
      · exact Or.inr (Or.inr (bad (Or.inr z2)))
  · refine Or.inr (Or.inl ⟨F, ?_, 0, K, ?_⟩)
    · unfold t_G_step; simp only [h1, fg_ob_ss, fg_ot_s]
    · unfold f_M_step
      rcases h2 with h2 | ⟨h2, h3⟩
      · simp only [h2, fg_ob_ss, if_true, rf_10, if_neg i10]
      · simp only [h2, h3, fg_ob_ss, if_true, rf_10, if_neg i10]
theorem nar1 : vp_nar .boolean 1 = 1 := by decide
theorem nar0 : vp_nar .boolean 0 = 0 := by decide
theorem wfm_add {B E C O : fg_A} {n : Int32} {N v w c : Nat} (Hw : wfm B E C O n N) (hN : N < 90) (hv : v < 28) (hw : w < 28) (hne : v ≠ w) (hc1 : 1 ≤ c) (hc9 : c ≤ 9) : wfm (upd B N (nI v)) (upd E N (nI w)) (upd C N (nI c)) (upd O N 1) (nI (N + 1)) (N + 1) := by
  refine ⟨by omega, rfl, fun r hr => ?_⟩
  by_cases q : r = N
  · subst q
    have e1 : cl (upd B r (nI v)) r = v := by rw [cl_upd (by omega), if_pos rfl]
    have e2 : cl (upd E r (nI w)) r = w := by rw [cl_upd (by omega), if_pos rfl]
    have e3 : cl (upd C r (nI c)) r = c := by rw [cl_upd (by omega), if_pos rfl]
    rw [e1, e2, e3]
    exact ⟨⟨pk_us, hv⟩, ⟨pk_us, hw⟩, hne, ⟨pk_us, hc1, hc9⟩, Or.inr pk_us⟩
  · have e1 : cl (upd B N (nI v)) r = cl B r := by rw [cl_upd (by omega), if_neg q]
    have e2 : cl (upd E N (nI w)) r = cl E r := by rw [cl_upd (by omega), if_neg q]
    have e3 : cl (upd C N (nI c)) r = cl C r := by rw [cl_upd (by omega), if_neg q]
    rw [e1, e2, e3, pk_un q, pk_un q, pk_un q, pk_un q]
    exact Hw.2.2 r (by omega)
theorem in19 (x : Int32) : (∃ c, 1 ≤ c ∧ c ≤ 9 ∧ x = nI c ∧ ¬ x < 1 ∧ x ≤ 9 ∧ f_M_in x 1 9 = some 1) ∨ (f_M_in x 1 9 = some 0 ∧ (x < 1 ∨ ¬ x ≤ 9)) := by
  by_cases h : x < 1
  · refine Or.inr ⟨?_, Or.inl h⟩
    unfold f_M_in; rw [if_pos h]
  · by_cases h2 : x ≤ 9
    · have h0 : ¬ x < 0 := fun z => h (by
        rw [Int32.lt_iff_toInt_lt] at z ⊢
        have e1 : (0 : Int32).toInt = 0 := by decide
        have e2 : (1 : Int32).toInt = 1 := by decide
        omega)
      obtain ⟨j, hj, rfl⟩ := nI_of2 (M := 9) (n := 9) (by decide) h0 h2
      refine Or.inl ⟨j, ?_, hj, rfl, h, h2, ?_⟩
      · rcases Nat.lt_or_ge j 1 with q | q
        · exact absurd (show nI j < nI 1 from nI_lt q (by decide)) h
        · exact q
      · unfold f_M_in
        rw [if_neg h, if_neg (show ¬ (9 : Int32) < nI j from nI_nlt (a := 9) hj (by decide))]
    · refine Or.inr ⟨?_, Or.inr h2⟩
      have h3 : (9 : Int32) < x := by
        rw [Int32.lt_iff_toInt_lt]
        rw [Int32.le_iff_toInt_le] at h2
        omega
      unfold f_M_in; rw [if_neg h, if_pos h3]
theorem op_rule {B E C O : fg_A} {n : Int32} {N : Nat} (Hw : wfm B E C O n N) (p0 p1 p2 t : Int32) :
    (∃ r B' E' C' O' n' N', t_G_rule B E C O n p0 p1 p2 = none ∧ f_G_rule B E C O n p0 p1 p2 = some (r, B', E', C', O', n') ∧ f_M_rule t n B E C O p0 p1 p2 = some (r, 0, n', B', E', C', O') ∧ wfm B' E' C' O' n' N') ∨
    (t_G_rule B E C O n p0 p1 p2 = some 0 ∧ ∃ r, f_M_rule t n B E C O p0 p1 p2 = some (r, 1, n, B, E, C, O)) ∨ (t_G_rule B E C O n p0 p1 p2 = some 1 ∧ ∃ r, f_M_rule t n B E C O p0 p1 p2 = some (r, 2, n, B, E, C, O)) := by
  obtain ⟨hN, hn, -⟩ := id Hw
  rcases nd2_cases p0 p1 with ⟨v, w, hv, hw, rfl, rfl⟩ | ⟨h1, h2⟩
  · by_cases q : v = w
    · refine Or.inr (Or.inl ⟨?_, 0, ?_⟩)
      · unfold t_G_rule t_G_needUnlikeNodes
        simp only [t_nodes hw hw, pf_need hw hw, fg_ot_n, fg_ob_ss, q, if_true, fg_ot_s]
      · unfold f_M_rule
        simp only [pf_isNode hv, pf_isNode hw, fg_ob_ss, if_neg i10, q, if_true, rf_10, rf_11]
        split <;> rfl
    · have hne : ¬ nI v = nI w := fun z => q ((nI_eq (by omega) (by omega)).mp z)
      rcases in19 p2 with ⟨c, c1, c9, rfl, c2, c3, c4⟩ | ⟨c4, c5⟩
      · rcases Nat.lt_or_ge N 90 with hN9 | hN9
        · have hlt : n < 90 := by rw [hn]; exact (show nI N < nI 90 from nI_lt hN9 (by decide))
          have hn9 : ¬ n = 90 := by rw [hn]; exact fun z => by have := (nI_eq (by omega) (by decide)).mp (show nI N = nI 90 from z); omega
          have h90 : ix n 90 = true := by rw [hn]; exact ix_nI hN9 (by decide)
          have hcl : n.toNatClampNeg = N := by rw [hn]; exact nI_clamp (by omega)
          refine Or.inl ⟨n, upd B N (nI v), upd E N (nI w), upd C N (nI c), upd O N 1, n + 1, N + 1, ?_, ?_, ?_, ?_⟩
          · unfold t_G_rule
            simp only [t_unlike hv hw q, pf_needU hv hw q, fg_ot_n, fg_ob_ss, if_neg c2, if_pos c3, if_pos hlt]
          · unfold f_G_rule
            simp only [pf_needU hv hw q, fg_ob_ss, if_neg c2, if_pos c3, if_pos hlt, h90, fg_og_tt, hcl, nar1]
          · have hd : n + 1 - 1 = n := by rw [hn, nI_1, nI_pred]
            unfold f_M_rule
            simp only [pf_isNode hv, pf_isNode hw, fg_ob_ss, if_neg i10, if_neg hne, c4, if_neg hn9, rf_00, if_true, h90, fg_og_tt, hcl, nar1, hd]
          · rw [hn, nI_1]
            exact wfm_add Hw hN9 hv hw q c1 c9
        · have e1 : N = 90 := by omega
          subst e1
          have hlt : ¬ n < 90 := by rw [hn]; exact (show ¬ nI 90 < nI 90 from nI_nlt (Nat.le_refl 90) (by decide))
          have hn9 : n = 90 := hn
          refine Or.inr (Or.inr ⟨?_, 0, ?_⟩)
          · unfold t_G_rule
            simp only [t_unlike hv hw q, pf_needU hv hw q, fg_ot_n, fg_ob_ss, if_neg c2, if_pos c3, if_neg hlt]
          · unfold f_M_rule
            simp only [pf_isNode hv, pf_isNode hw, fg_ob_ss, if_neg i10, if_neg hne, c4, if_pos hn9, rf_01]
      · refine Or.inr (Or.inl ⟨?_, 0, ?_⟩)
        · unfold t_G_rule
          simp only [t_unlike hv hw q, pf_needU hv hw q, fg_ot_n, fg_ob_ss]
          by_cases z : p2 < 1
          · rw [if_pos z]
          · rw [if_neg z, if_neg (c5.resolve_left z)]
        · unfold f_M_rule
          simp only [pf_isNode hv, pf_isNode hw, fg_ob_ss, if_neg i10, if_neg hne, c4, if_true, rf_10, rf_11]
          split <;> rfl
  · refine Or.inr (Or.inl ⟨?_, 0, ?_⟩)
    · unfold t_G_rule t_G_needUnlikeNodes
      simp only [h1, fg_ot_s]
    · unfold f_M_rule
      rcases h2 with h2 | ⟨h2, h3⟩
      · simp only [h2, fg_ob_ss, if_true, rf_10, rf_11, if_neg i10]
        split <;> rfl
      · simp only [h2, h3, fg_ob_ss, if_true, rf_10, rf_11, if_neg i10]
        split <;> rfl
theorem wfm_on {B E C O : fg_A} {n : Int32} {N r : Nat} {x : Int32} (Hw : wfm B E C O n N) (hx : x = 0 ∨ x = 1) : wfm B E C (upd O r x) n N := by
  refine ⟨Hw.1, Hw.2.1, fun q hq => ?_⟩
  obtain ⟨a1, a2, a3, a4, a5⟩ := Hw.2.2 q hq
  refine ⟨a1, a2, a3, a4, ?_⟩
  by_cases z : q = r
  · rw [z, pk_us]; exact hx
  · rw [pk_un z]; exact a5
theorem op_turn {B E C O : fg_A} {n : Int32} {N : Nat} (Hw : wfm B E C O n N) (p0 p1 t : Int32) (hp : p1 = 0 ∨ p1 = 1) :
    (∃ r O', t_G_turn O n p0 p1 = none ∧ f_G_turn O n p0 p1 = some (r, O') ∧ f_M_turn t n O p0 p1 = some (r, 0, O') ∧ (r = 0 ∨ r = 1) ∧ wfm B E C O' n N) ∨ (t_G_turn O n p0 p1 = some 2 ∧ ∃ r, f_M_turn t n O p0 p1 = some (r, 1, O)) := by
  obtain ⟨hN, hn, -⟩ := id Hw
  have hnar : vp_nar .boolean p1 = p1 := by rcases hp with rfl | rfl <;> decide
  by_cases z : p0 < 0
  · refine Or.inr ⟨?_, 0, ?_⟩
    · unfold t_G_turn; rw [if_pos z]
    · have hin : f_M_in p0 0 (n - 1) = some 0 := by unfold f_M_in; rw [if_pos z]
      unfold f_M_turn
      simp only [hin, fg_ob_ss, if_true, rf_10, if_neg i10]
  · obtain ⟨j, hj, rfl⟩ := nI_of z
    rcases Nat.lt_or_ge j N with q | q
    · have hlt : nI j < n := by rw [hn]; exact nI_lt q (by omega)
      have h90 : ix (nI j) 90 = true := ix_nI (by omega) (by decide)
      have hcl : (nI j).toNatClampNeg = j := nI_clamp hj
      have hin : f_M_in (nI j) 0 (n - 1) = some 1 := by
        unfold f_M_in
        rw [if_neg z, hn, pmI_sub]
        obtain ⟨M, rfl⟩ : ∃ i, N = i + 1 := ⟨N - 1, by omega⟩
        rw [if_neg (show ¬ pmI (M + 1) < nI j from nI_nlt (a := M) (by omega) (by omega))]
      refine Or.inl ⟨if O j = p1 then 1 else 0, upd O j p1, ?_, ?_, ?_, ?_, wfm_on Hw hp⟩
      · unfold t_G_turn; rw [if_neg z, if_pos hlt]
      · unfold f_G_turn
        simp only [if_neg z, if_pos hlt, h90, fg_og_tt, hcl, hnar]
        split <;> rfl
      · unfold f_M_turn
        simp only [hin, fg_ob_ss, if_neg i10, rf_00, if_true, h90, fg_og_tt, hcl, hnar]
        split <;> rfl
      · split
        · exact Or.inr rfl
        · exact Or.inl rfl
    · have hlt : ¬ nI j < n := by rw [hn]; exact nI_nlt q hj
      have hin : f_M_in (nI j) 0 (n - 1) = some 0 := by
        unfold f_M_in
        rw [if_neg z, hn, pmI_sub, if_pos]
        cases N with
        | zero => exact nI_lt_m1 hj
        | succ M => exact nI_lt (by omega) hj
      refine Or.inr ⟨?_, 0, ?_⟩
      · unfold t_G_turn; rw [if_neg z, if_neg hlt]
      · unfold f_M_turn
        simp only [hin, fg_ob_ss, if_true, rf_10, if_neg i10]
theorem op_clear {B E C O : fg_A} {n : Int32} {N : Nat} (_ : wfm B E C O n N) : wfm B E C O 0 0 := ⟨by omega, rfl, fun r hr => absurd hr (Nat.not_lt_zero r)⟩
theorem wfm_0 : wfm (fun _ => 0) (fun _ => 0) (fun _ => 0) (fun _ => 0) 0 0 := ⟨by omega, rfl, fun r hr => absurd hr (Nat.not_lt_zero r)⟩
