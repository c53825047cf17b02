/-! The law's loop as a function: it goes through for every script. -/
theorem lg_cmp_self (x : Int64) : lg_cmp x x = 0 := by
  unfold lg_cmp
  rw [if_neg (by intro h; exact absurd h (by rw [gt_iff_lt, Int64.lt_iff_toInt_lt]; omega)), if_pos rfl]
theorem updL0 (w : fg_J) (x : Int64) : vp_updL w 0 x 0 = x := pk_uLs
theorem pl_ix {it ln j : Nat} (h : 4 * it + 4 ≤ ln) (hl : ln ≤ 2048) (hj : j < 4) : ix (nI (4 * it) + nI j) ln = true := by rw [nI_add]; exact ix_nI (by omega) (by omega)
theorem pl_law (xs : Nat → Int32) {ln : Nat} (hl : ln ≤ 2048) :
    ∀ (k it N : Nat) (B E C O : fg_A) (n : Int32) (gF gL gV mF mL mV : fg_A) (mt : Int32) (w : fg_J), 4 * it ≤ ln → 512 < it + k → wfm B E C O n N →
      f_law xs ln k (nI (4 * it)) B E C O n gF gL gV mt n B E C O mF mL mV w = some () := by
  intro k
  induction k with
  | zero => intro it N B E C O n gF gL gV mF mL mV mt w h4 hk; omega
  | succ k ih =>
    intro it N B E C O n gF gL gV mF mL mV mt w h4 hk Hw
    rw [f_law]
    by_cases hc : (Int32.ofNat ln - 4) < nI (4 * it)
    · rw [if_pos hc]
    · rw [if_neg hc]
      have hin : 4 * it + 4 ≤ ln := by
        rcases Nat.lt_or_ge (4 * it + 3) ln with q | q
        · omega
        · exfalso
          apply hc
          rw [Int32.lt_iff_toInt_lt, nI_toInt (by omega)]
          have e1 : (Int32.ofNat ln).toInt = ln := nI_toInt (n := ln) (by omega)
          have e2 : (4 : Int32).toInt = 4 := by decide
          rw [ti_sub (by omega) (by omega) (by omega) (by omega), e1, e2]
          omega
      have x0 : ix (nI (4 * it)) ln = true := ix_nI (by omega) (by omega)
      have x1 : ix (nI (4 * it) + 1) ln = true := pl_ix (j := 1) hin hl (by omega)
      have x2 : ix (nI (4 * it) + 2) ln = true := pl_ix (j := 2) hin hl (by omega)
      have x3 : ix (nI (4 * it) + 3) ln = true := pl_ix (j := 3) hin hl (by omega)
      have nx : nI (4 * it) + 4 = nI (4 * (it + 1)) := by rw [show (4 : Int32) = nI 4 from rfl, nI_add]; rfl
      have go : ∀ (N : Nat) (B E C O : fg_A) (n : Int32) (gF gL gV mF mL mV : fg_A) (mt : Int32) (w : fg_J), wfm B E C O n N → f_law xs ln k (nI (4 * (it + 1))) B E C O n gF gL gV mt n B E C O mF mL mV w = some () :=
        fun N B E C O n gF gL gV mF mL mV mt w Hw => ih (it + 1) N B E C O n gF gL gV mF mL mV mt w (by omega) (by omega) Hw
      simp only [x0, x1, x2, x3, fg_og_tt, nx]
      generalize (xs (nI (4 * it)).toNatClampNeg &&& 15) = v
      generalize xs (nI (4 * it) + 1).toNatClampNeg = p0
      generalize xs (nI (4 * it) + 2).toNatClampNeg = p1
      generalize xs (nI (4 * it) + 3).toNatClampNeg = p2
      have thr : ∀ z, f_M_thrown z = some z := fun _ => rfl
      have p01 : ¬ (0 : Int32) = 1 := by decide
      have p02 : ¬ (0 : Int32) = 2 := by decide
      have p10 : ¬ (1 : Int32) = 0 := by decide
      have p20 : ¬ (2 : Int32) = 0 := by decide
      have n10 : ¬ (1 : Nat) = 0 := by decide
      have n20 : ¬ (2 : Nat) = 0 := by decide
      by_cases h0 : v = 0
      · rw [if_pos h0]
        show f_law xs ln k (nI (4 * (it + 1))) B E C O 0 gF gL gV 0 0 B E C O mF mL mV w = some ()
        exact go 0 B E C O 0 gF gL gV mF mL mV 0 w (op_clear Hw)
      rw [if_neg h0]
      by_cases h1 : v = 1
      · rw [if_pos h1]
        rcases op_rule Hw p0 p1 p2 mt with ⟨r, B', E', C', O', n', N', a0, a1, a2, a3⟩ | ⟨a1, r, a2⟩ | ⟨a1, r, a2⟩
        · have hh : h_rule B E C O n p0 p1 p2 w = some (0, B', E', C', O', n', vp_updL w 0 r.toInt64) := by unfold h_rule; rw [a0, a1]; rfl
          simp only [hh, a2, fg_ob_ss, thr, if_true, updL0, lg_cmp_self]
          exact go N' B' E' C' O' n' gF gL gV mF mL mV 0 _ a3
        · have hh : h_rule B E C O n p0 p1 p2 w = some (1, B, E, C, O, n, w) := by unfold h_rule; rw [a1]; rfl
          simp only [hh, a2, fg_ob_ss, thr, if_true, if_neg p10]
          exact go N B E C O n gF gL gV mF mL mV 1 _ Hw
        · have hh : h_rule B E C O n p0 p1 p2 w = some (2, B, E, C, O, n, w) := by unfold h_rule; rw [a1]; rfl
          simp only [hh, a2, fg_ob_ss, thr, if_true, if_neg p20]
          exact go N B E C O n gF gL gV mF mL mV 2 _ Hw
      rw [if_neg h1]
      by_cases h2 : v = 2
      · rw [if_pos h2]
        have turn : ∀ z : Int32, (z = 0 ∨ z = 1) → ∃ r O' tt w', h_turn O n p0 z w = some (r, O', w') ∧ ∃ b, f_M_turn mt n O p0 z = some (b, tt, O') ∧ tt = r ∧ (r = 0 → (b = 0 ∧ w' 0 = 0) ∨ (b = 1 ∧ w' 0 = 1)) ∧ wfm B E C O' n N := fun z hz => by
          rcases op_turn Hw p0 z mt hz with ⟨r, O', a0, a1, a2, a3, a4⟩ | ⟨a1, r, a2⟩
          · refine ⟨0, O', 0, vp_updL w 0 (if r = 0 then 0 else 1), ?_, r, a2, rfl, fun _ => ?_, a4⟩
            · unfold h_turn; rw [a0, a1]; rfl
            · rw [updL0]
              rcases a3 with rfl | rfl
              · exact Or.inl ⟨rfl, rfl⟩
              · exact Or.inr ⟨rfl, rfl⟩
          · refine ⟨1, O, 1, w, ?_, r, a2, rfl, fun h => absurd h p10, Hw⟩
            unfold h_turn; rw [a1]; rfl
        have fin : ∀ (r b : Int32) (O' : fg_A) (w' : fg_J), (r = 0 → (b = 0 ∧ w' 0 = 0) ∨ (b = 1 ∧ w' 0 = 1)) → wfm B E C O' n N →
            (if r = 0 then if b = 0 then if lg_cmp (w' 0) 0 = 0 then f_law xs ln k (nI (4 * (it + 1))) B E C O' n gF gL gV r n B E C O' mF mL mV w' else none else if lg_cmp (w' 0) 1 = 0 then f_law xs ln k (nI (4 * (it + 1))) B E C O' n gF gL gV r n B E C O' mF mL mV w' else none else f_law xs ln k (nI (4 * (it + 1))) B E C O' n gF gL gV r n B E C O' mF mL mV w') = some () := fun r b O' w' hb hw' => by
          by_cases z : r = 0
          · rw [if_pos z]
            rcases hb z with ⟨rfl, h⟩ | ⟨rfl, h⟩
            · rw [if_pos rfl, h, lg_cmp_self, if_pos rfl]; exact go N B E C O' n gF gL gV mF mL mV r w' hw'
            · rw [if_neg p10, h, lg_cmp_self, if_pos rfl]; exact go N B E C O' n gF gL gV mF mL mV r w' hw'
          · rw [if_neg z]; exact go N B E C O' n gF gL gV mF mL mV r w' hw'
        by_cases z : p1 = 0
        · obtain ⟨r, O', tt, w', g1, b, g2, rfl, g3, g4⟩ := turn 0 (Or.inl rfl)
          simp only [if_pos z, g1, g2, fg_ob_ss, thr, if_true]
          exact fin _ b O' w' g3 g4
        · obtain ⟨r, O', tt, w', g1, b, g2, rfl, g3, g4⟩ := turn 1 (Or.inr rfl)
          simp only [if_neg z, g1, g2, fg_ob_ss, thr, if_true]
          exact fin _ b O' w' g3 g4
      rw [if_neg h2]
      by_cases h3 : v = 3
      · rw [if_pos h3]
        rcases op_length Hw p0 p1 gF mF mt with ⟨r, F', K', a0, a1, a2⟩ | ⟨a1, r, K', a2⟩
        · have hh : h_length B E O n gF p0 p1 w = some (0, F', vp_updL w 0 r.toInt64) := by unfold h_length; rw [a0, a1]; rfl
          simp only [hh, a2, fg_ob_ss, thr, if_true, updL0, lg_cmp_self]
          exact go N B E C O n F' gL gV K' mL mV 0 _ Hw
        · have hh : h_length B E O n gF p0 p1 w = some (1, gF, w) := by unfold h_length; rw [a1]; rfl
          simp only [hh, a2, fg_ob_ss, thr, if_true, if_neg p10]
          exact go N B E C O n gF gL gV K' mL mV 1 _ Hw
      rw [if_neg h3]
      by_cases h4' : v = 4
      · rw [if_pos h4']
        rcases op_step Hw p0 p1 p2 gF mF mt with ⟨r, F', K', a0, a1, a2⟩ | ⟨F', a1, r, K', a2⟩ | ⟨F', a1, r, K', a2⟩
        · have hh : h_step B E O n gF p0 p1 p2 w = some (0, F', vp_updL w 0 r.toInt64) := by unfold h_step; rw [a0, a1]; rfl
          simp only [hh, a2, fg_ob_ss, thr, if_true, updL0, lg_cmp_self]
          exact go N B E C O n F' gL gV K' mL mV 0 _ Hw
        · have hh : h_step B E O n gF p0 p1 p2 w = some (1, F', w) := by unfold h_step; rw [a1]; rfl
          simp only [hh, a2, fg_ob_ss, thr, if_true, if_neg p10]
          exact go N B E C O n F' gL gV K' mL mV 1 _ Hw
        · have hh : h_step B E O n gF p0 p1 p2 w = some (2, F', w) := by unfold h_step; rw [a1]; rfl
          simp only [hh, a2, fg_ob_ss, thr, if_true, if_neg p20]
          exact go N B E C O n F' gL gV K' mL mV 2 _ Hw
      rw [if_neg h4']
      by_cases h5 : v = 5
      · rw [if_pos h5]
        rcases op_passed Hw p0 p1 mF mt with ⟨r, K', a0, a1, a2⟩ | ⟨a1, r, K', a2⟩
        · have hh : h_passed B E O n p0 p1 w = some (0, vp_updL w 0 r.toInt64) := by unfold h_passed; rw [a0, a1]; rfl
          simp only [hh, a2, fg_ob_ss, thr, if_true, updL0, lg_cmp_self]
          exact go N B E C O n gF gL gV K' mL mV 0 _ Hw
        · have hh : h_passed B E O n p0 p1 w = some (1, w) := by unfold h_passed; rw [a1]; rfl
          simp only [hh, a2, fg_ob_ss, thr, if_true, if_neg p10]
          exact go N B E C O n gF gL gV K' mL mV 1 _ Hw
      rw [if_neg h5]
      by_cases h6 : v = 6
      · rw [if_pos h6]
        rcases op_circle Hw p0 mF mt with ⟨r, K', a0, a1, a2⟩ | ⟨a1, r, K', a2⟩
        · have hh : h_circle B E O n p0 w = some (0, vp_updL w 0 r.toInt64) := by unfold h_circle; rw [a0, a1]; rfl
          simp only [hh, a2, fg_ob_ss, thr, if_true, updL0, lg_cmp_self]
          exact go N B E C O n gF gL gV K' mL mV 0 _ Hw
        · have hh : h_circle B E O n p0 w = some (1, w) := by unfold h_circle; rw [a1]; rfl
          simp only [hh, a2, fg_ob_ss, thr, if_true, if_neg p10]
          exact go N B E C O n gF gL gV K' mL mV 1 _ Hw
      rw [if_neg h6]
      by_cases h7 : v = 7
      · rw [if_pos h7]
        obtain ⟨r, K', a1, a2⟩ := op_circles Hw mF mt
        simp only [a1, a2, fg_ob_ss, if_true]
        exact go N B E C O n gF gL gV K' mL mV 0 _ Hw
      rw [if_neg h7]
      by_cases h8 : v = 8
      · rw [if_pos h8]
        rcases op_cut Hw p0 p1 gL gV mL mV mt with ⟨r, L', V', L3, V3, a0, a1, a2⟩ | ⟨a1, r, L3, V3, a2⟩
        · have hh : h_cut B E C O n gL gV p0 p1 w = some (0, L', V', vp_updL w 0 r.toInt64) := by unfold h_cut; rw [a0, a1]; rfl
          simp only [hh, a2, fg_ob_ss, thr, if_true, updL0, lg_cmp_self]
          exact go N B E C O n gF L' V' mF L3 V3 0 _ Hw
        · have hh : h_cut B E C O n gL gV p0 p1 w = some (1, gL, gV, w) := by unfold h_cut; rw [a1]; rfl
          simp only [hh, a2, fg_ob_ss, thr, if_true, if_neg p10]
          exact go N B E C O n gF gL gV mF L3 V3 1 _ Hw
      rw [if_neg h8]
      by_cases h9 : v = 9
      · rw [if_pos h9]
        rcases op_cutRule Hw p0 p1 p2 gL gV mL mV mt with ⟨r, L', V', L3, V3, a0, a1, a2⟩ | ⟨a1, r, L3, V3, a2⟩
        · have hh : h_cutRule B E C O n gL gV p0 p1 p2 w = some (0, L', V', vp_updL w 0 r.toInt64) := by unfold h_cutRule; rw [a0, a1]; rfl
          simp only [hh, a2, fg_ob_ss, thr, if_true, updL0, lg_cmp_self]
          exact go N B E C O n gF L' V' mF L3 V3 0 _ Hw
        · have hh : h_cutRule B E C O n gL gV p0 p1 p2 w = some (1, gL, gV, w) := by unfold h_cutRule; rw [a1]; rfl
          simp only [hh, a2, fg_ob_ss, thr, if_true, if_neg p10]
          exact go N B E C O n gF gL gV mF L3 V3 1 _ Hw
      rw [if_neg h9]
      by_cases h10 : v = 10
      · rw [if_pos h10]
        rcases op_left Hw p0 p1 gL gV mL mV mt with ⟨r, L', V', L3, V3, a0, a1, a2⟩ | ⟨a1, r, L3, V3, a2⟩
        · have hh : h_left B E C O n gL gV p0 p1 w = some (0, L', V', vp_updL w 0 r.toInt64) := by unfold h_left; rw [a0, a1]; rfl
          simp only [hh, a2, fg_ob_ss, thr, if_true, updL0, lg_cmp_self]
          exact go N B E C O n gF L' V' mF L3 V3 0 _ Hw
        · have hh : h_left B E C O n gL gV p0 p1 w = some (1, gL, gV, w) := by unfold h_left; rw [a1]; rfl
          simp only [hh, a2, fg_ob_ss, thr, if_true, if_neg p10]
          exact go N B E C O n gF gL gV mF L3 V3 1 _ Hw
      rw [if_neg h10]
      exact go N B E C O n gF gL gV mF mL mV mt w Hw
