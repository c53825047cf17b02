/-! Cuts: both are alike. -/
def lvb (B E O : fg_A) (S : Nat → Bool) (r : Nat) : Bool := onb O r && S (cl B r) && !S (cl E r)
theorem lvb_t {B E O : fg_A} {S : Nat → Bool} {r : Nat} : lvb B E O S r = true ↔ (¬ O r = 0 ∧ S (cl B r) = true ∧ S (cl E r) = false) := by
  unfold lvb onb
  simp [Bool.and_eq_true, and_assoc]
theorem pf_leaves {B E C O : fg_A} {n y : Int32} {N r : Nat} (Hw : wfm B E C O n N) (hr : r < N) : f_G_leaves B E O (nI r) y = some (if lvb B E O (bt y) r = true then 1 else 0) := by
  have hN := Hw.1
  obtain ⟨⟨hB, hB8⟩, ⟨hE, hE8⟩, -⟩ := Hw.2.2 r hr
  have h90 : ix (nI r) 90 = true := ix_nI (by omega) (by decide)
  have hci : (nI r).toNatClampNeg = r := nI_clamp (by omega)
  unfold f_G_leaves
  simp only [h90, hci, fg_og_tt]
  by_cases hO : O r = 0
  · rw [if_pos hO, if_neg (fun z => (lvb_t.mp z).1 hO)]
  · rw [if_neg hO, hB, fg_ob_s (pf_has (by omega))]
    by_cases hb : bt y (cl B r) = true
    · rw [if_pos hb, if_neg (by decide), hE, fg_ob_s (pf_has (by omega))]
      by_cases he : bt y (cl E r) = true
      · rw [if_pos he, if_neg (by decide), if_neg (fun z => by rw [(lvb_t.mp z).2.2] at he; cases he)]
      · rw [if_neg he, if_pos rfl, if_pos (lvb_t.mpr ⟨hO, hb, by simpa using he⟩)]
    · rw [if_neg hb, if_pos rfl, if_neg (fun z => hb (lvb_t.mp z).2.1)]
def sN (p : Nat → Bool) (g : Nat → Nat) : Nat → Nat
  | 0 => 0
  | n + 1 => sN p g n + (if p n = true then g n else 0)
theorem sN_cast {p : Nat → Bool} {g : Nat → Nat} {h : Nat → Int} : ∀ {n : Nat}, (∀ i, i < n → h i = if p i = true then (g i : Int) else 0) → (sN p g n : Int) = sm h n
  | 0, _ => rfl
  | n + 1, H => by
    show ((sN p g n + (if p n = true then g n else 0) : Nat) : Int) = sm h n + h n
    rw [Int.natCast_add, sN_cast (fun i hi => H i (Nat.lt_succ_of_lt hi)), H n (Nat.lt_succ_self n)]
    by_cases z : p n = true
    · rw [if_pos z, if_pos z]
    · rw [if_neg z, if_neg z]; rfl
theorem pf_c18 {B E C O : fg_A} {n y : Int32} {N : Nat} (Hw : wfm B E C O n N) :
    ∀ (k i : Nat), i ≤ N → N < i + k → f_G_cut_18 B E C O n y k (nI (sN (lvb B E O (bt y)) (cl C) i)) (nI i) = some (nI (sN (lvb B E O (bt y)) (cl C) N)) := by
  obtain ⟨hN, hn, hw⟩ := id Hw
  intro k
  induction k with
  | zero => intro i hi hk; omega
  | succ k ih =>
    intro i hi hk
    rw [f_G_cut_18]
    rcases Nat.lt_or_ge i N with q | q
    · obtain ⟨-, -, -, ⟨hC, -⟩, -⟩ := hw i q
      have h90 : ix (nI i) 90 = true := ix_nI (by omega) (by decide)
      have hci : (nI i).toNatClampNeg = i := nI_clamp (by omega)
      rw [if_neg (show ¬ n ≤ nI i by rw [hn]; exact nI_ge q (by omega)), fg_ob_s (pf_leaves Hw q), nI_1]
      by_cases h : lvb B E O (bt y) i = true
      · have e1 : sN (lvb B E O (bt y)) (cl C) (i + 1) = sN (lvb B E O (bt y)) (cl C) i + cl C i := by show _ + (if lvb B E O (bt y) i = true then cl C i else 0) = _; rw [if_pos h]
        rw [if_pos h, if_neg (by decide), fg_og_t h90, hci, hC, nI_add, ← e1]
        exact ih (i + 1) (by omega) (by omega)
      · have e1 : sN (lvb B E O (bt y)) (cl C) (i + 1) = sN (lvb B E O (bt y)) (cl C) i := by show _ + (if lvb B E O (bt y) i = true then cl C i else 0) = _; rw [if_neg h]; rfl
        rw [if_neg h, if_pos rfl, ← e1]
        exact ih (i + 1) (by omega) (by omega)
    · have e1 : i = N := by omega
      subst e1
      rw [if_pos (show n ≤ nI i by rw [hn]; exact nI_le (Nat.le_refl i) (by omega))]
theorem pf_unlike {a b : Nat} (ha : a < 28) (hb : b < 28) (h : a ≠ b) : f_M_areUnlike (nI a) (nI b) = some 1 := by
  unfold f_M_areUnlike
  rw [fg_ob_s (pf_isNode ha), if_neg (by decide), fg_ob_s (pf_isNode hb), if_neg (by decide), if_neg (fun z => h ((nI_eq (by omega) (by omega)).mp z))]
/-- both near sides are one -/
theorem pf_sides {B E C O : fg_A} {n : Int32} {N s t : Nat} (Hw : wfm B E C O n N) (hs : s < 28) (ht : t < 28) (hst : s ≠ t) (L V L2 V2 : fg_A) :
    ∃ y L' V' j L3 V3, f_G_nearSide B E C O n L V (nI s) (nI t) = some (y, L', V') ∧ f_M_flow n B E C O L2 V2 (nI s) (nI t) = some (nI j, L3, V3) ∧ j ≤ 810 ∧ (j : Int) = fl_cap N (cl B) (cl E) (fI C) (onb O) (bt y) ∧ mk28 y ∧ (∀ v, v < 28 → V3 v = nI (cl V3 v) ∧ cl V3 v ≤ 200) ∧ ∀ v, bt y v = mR V3 v := by
  obtain ⟨y, L', V', f, z, a1, a2, a3, a4, a5, a6, a7⟩ := pf_near Hw hs ht hst L V
  obtain ⟨j, L3, V3, c1, c2, c3, c4, c5, c6, c7, c8⟩ := pf_mflow Hw hs ht hst L2 V2
  obtain ⟨u1, u2⟩ := fl_unique Hw.b28 Hw.e28 hs a2 c3 a4 a5 a6 a7 c5 c6 c7 c8
  exact ⟨y, L', V', j, L3, V3, a1, c1, c2, by rw [← u1]; exact fl_eq Hw.b28 Hw.e28 hs a2 a4 a5 a6, a3, c4, u2⟩
/-- promise 10 -/
theorem pf_cut {B E C O : fg_A} {n : Int32} {N s t : Nat} (Hw : wfm B E C O n N) (hs : s < 28) (ht : t < 28) (hst : s ≠ t) (L V L2 V2 : fg_A) (th : Int32) :
    ∃ (r : Int32) (L' V' L3 V3 : fg_A), f_G_cut B E C O n L V (nI s) (nI t) = some (r, L', V') ∧ f_M_cut th n B E C O L2 V2 (nI s) (nI t) = some (r, 0, L3, V3) := by
  obtain ⟨y, L', V', j, L3, V3, a1, a2, a3, a4, a5, a6, a7⟩ := pf_sides Hw hs ht hst L V L2 V2
  have h1 := pf_c18 (y := y) Hw fu 0 (Nat.zero_le N) (by show N < 0 + 1000; have := Hw.1; omega)
  have h2 : (sN (lvb B E O (bt y)) (cl C) N : Int) = fl_cap N (cl B) (cl E) (fI C) (onb O) (bt y) := sN_cast fun r hr => by
    rw [(Hw.ci hr).1]
    by_cases z : lvb B E O (bt y) r = true
    · obtain ⟨z1, z2, z3⟩ := lvb_t.mp z
      rw [if_pos z, if_pos ⟨onb_t z1, z2, z3⟩]
    · rw [if_neg z, if_neg (fun ⟨z1, z2, z3⟩ => z (lvb_t.mpr ⟨onb_ne z1, z2, z3⟩))]
  have h3 : sN (lvb B E O (bt y)) (cl C) N = j := by omega
  refine ⟨nI j, L', V', L3, V3, ?_, ?_⟩
  · unfold f_G_cut
    rw [fg_ob_s (pf_needU hs ht hst), fg_ob_s a1]
    dsimp only
    rw [fg_ob_s (show f_G_cut_18 B E C O n y fu 0 0 = some (nI (sN (lvb B E O (bt y)) (cl C) N)) from h1), h3]
  · have e2 : f_M_refuse th 0 0 = some (0, 0) := rfl
    unfold f_M_cut
    rw [fg_ob_s (pf_unlike hs ht hst), if_neg (by decide), fg_ob_s e2]
    dsimp only
    rw [if_pos rfl, fg_ob_s a2]
theorem pf_cr {B E C O L V L3 V3 : fg_A} {n y x3 th : Int32} {N : Nat} (Hw : wfm B E C O n N) (hV : ∀ v, v < 28 → V3 v = nI (cl V3 v) ∧ cl V3 v ≤ 200) (hy : ∀ v, bt y v = mR V3 v) :
    ∀ (k i : Nat) (x : Int32), i ≤ N → N < i + k → ∃ r, f_G_cutRule_33 B E C O n L V x3 y k x (nI i) = some (r, L, V) ∧ f_M_cutRule_40 th n B E C O L3 V3 x3 k x (nI i) = some (r, th, L3, V3) := by
  obtain ⟨hN, hn, hw⟩ := id Hw
  intro k
  induction k with
  | zero => intro i x hi hk; omega
  | succ k ih =>
    intro i x hi hk
    rw [f_G_cutRule_33, f_M_cutRule_40]
    rcases Nat.lt_or_ge i N with q | q
    · obtain ⟨⟨hB, hB8⟩, ⟨hE, hE8⟩, -⟩ := hw i q
      have h90 : ix (nI i) 90 = true := ix_nI (by omega) (by decide)
      have hci : (nI i).toNatClampNeg = i := nI_clamp (by omega)
      have hcB : (B i).toNatClampNeg = cl B i := rfl
      have hcE : (E i).toNatClampNeg = cl E i := rfl
      have hxB : ix (B i) 28 = true := by rw [hB]; exact ix_nI hB8 (by decide)
      have hxE : ix (E i) 28 = true := by rw [hE]; exact ix_nI hE8 (by decide)
      have hlt : ¬ n ≤ nI i := by rw [hn]; exact nI_ge q (by omega)
      have le0 : ∀ {v}, v < 28 → (V3 v ≤ 0 ↔ bt y v = false) := fun {v} hv => by
        obtain ⟨z1, z2⟩ := hV v hv
        rw [hy v]
        constructor
        · intro h
          cases z : mR V3 v with
          | false => rfl
          | true =>
            have := (mR_t.mp z).2
            rw [z1] at h
            exact absurd h (nI_nle (by omega) (by omega))
        · intro h
          have : cl V3 v = 0 := by
            apply Classical.byContradiction
            intro z
            rw [mR_t.mpr ⟨hv, z⟩] at h; cases h
          rw [z1, this]; decide
      have eq0 : ∀ {v}, v < 28 → (V3 v = 0 ↔ bt y v = false) := fun {v} hv => by
        rw [← le0 hv]
        constructor
        · intro z; rw [z]; decide
        · intro z
          obtain ⟨z1, z2⟩ := hV v hv
          have : cl V3 v = 0 := by
            apply Classical.byContradiction
            intro w
            rw [z1] at z
            exact absurd z (nI_nle (by omega) (by omega))
          rw [z1, this]; rfl
      rw [if_neg hlt, if_neg hlt, fg_ob_s (pf_leaves Hw q)]
      simp only [h90, hci, hxB, hxE, hcB, hcE, nI_1, fg_og_tt]
      by_cases hO : O i = 0
      · rw [if_pos hO, if_neg (show ¬ lvb B E O (bt y) i = true from fun z => (lvb_t.mp z).1 hO), if_pos rfl]
        exact ih (i + 1) x (by omega) (by omega)
      · rw [if_neg hO]
        by_cases hb : bt y (cl B i) = true
        · rw [if_neg (show ¬ V3 (cl B i) ≤ 0 from fun z => by rw [(le0 hB8).mp z] at hb; cases hb)]
          by_cases he : bt y (cl E i) = true
          · rw [if_neg (show ¬ V3 (cl E i) = 0 from fun z => by rw [(eq0 hE8).mp z] at he; cases he), if_neg (show ¬ lvb B E O (bt y) i = true from fun z => by rw [(lvb_t.mp z).2.2] at he; cases he), if_pos rfl]
            exact ih (i + 1) x (by omega) (by omega)
          · have he2 : bt y (cl E i) = false := by simpa using he
            rw [if_pos ((eq0 hE8).mpr he2), if_pos (lvb_t.mpr ⟨hO, hb, he2⟩), if_neg (by decide)]
            by_cases hx : x = x3
            · rw [if_pos hx, if_pos hx]; exact ⟨_, rfl, rfl⟩
            · rw [if_neg hx, if_neg hx]
              exact ih (i + 1) (x + 1) (by omega) (by omega)
        · have hb2 : bt y (cl B i) = false := by simpa using hb
          rw [if_pos ((le0 hB8).mpr hb2), if_neg (show ¬ lvb B E O (bt y) i = true from fun z => hb (lvb_t.mp z).2.1), if_pos rfl]
          exact ih (i + 1) x (by omega) (by omega)
    · have e1 : i = N := by omega
      subst e1
      have hle : n ≤ nI i := by rw [hn]; exact nI_le (Nat.le_refl i) (by omega)
      rw [if_pos hle, if_pos hle]
      exact ⟨_, rfl, rfl⟩
/-- promise 11 -/
theorem pf_cutRule {B E C O : fg_A} {n k0 : Int32} {N s t : Nat} (Hw : wfm B E C O n N) (hs : s < 28) (ht : t < 28) (hst : s ≠ t) (hk : 0 ≤ k0) (L V L2 V2 : fg_A) (th : Int32) :
    ∃ (r : Int32) (L' V' L3 V3 : fg_A), f_G_cutRule B E C O n L V (nI s) (nI t) k0 = some (r, L', V') ∧ f_M_cutRule th n B E C O L2 V2 (nI s) (nI t) k0 = some (r, 0, L3, V3) := by
  obtain ⟨y, L', V', j, L3, V3, a1, a2, a3, a4, a5, a6, a7⟩ := pf_sides Hw hs ht hst L V L2 V2
  obtain ⟨r, h1, h2⟩ := pf_cr (L := L') (V := V') (L3 := L3) (V3 := V3) (y := y) (x3 := k0) (th := 0) Hw a6 a7 fu 0 0 (Nat.zero_le N) (by show N < 0 + 1000; have := Hw.1; omega)
  refine ⟨r, L', V', L3, V3, ?_, ?_⟩
  · unfold f_G_cutRule
    rw [fg_ob_s (pf_needU hs ht hst), if_pos hk, fg_ob_s a1]
    exact h1
  · have e2 : f_M_refuse th 0 0 = some (0, 0) := rfl
    unfold f_M_cutRule
    rw [fg_ob_s (pf_unlike hs ht hst), if_neg (by decide), if_pos hk, fg_ob_s e2]
    dsimp only
    rw [if_pos rfl, fg_ob_s a2]
    exact h2
theorem pf_l35 {V : fg_A} (hV : ∀ v, v < 28 → V v = nI (cl V v) ∧ cl V v ≤ 200) :
    ∀ (k i : Nat) (x : Int32), i ≤ 28 → 28 < i + k → mk28 x → (∀ v, v < 28 → (bt x v = true ↔ v < i ∧ mR V v = true)) → ∃ y, f_M_left_35 V k x (nI i) = some y ∧ mk28 y ∧ ∀ v, v < 28 → (bt y v = true ↔ mR V v = true) := by
  intro k
  induction k with
  | zero => intro i x hi hk; omega
  | succ k ih =>
    intro i x hi hk hx hb
    rw [f_M_left_35]
    rcases Nat.lt_or_ge i 28 with q | q
    · obtain ⟨miss, hit⟩ := mk_step (P := fun v => mR V v = true) q hb
      obtain ⟨z1, z2⟩ := hV i q
      rw [if_neg (show ¬ (28 : Int32) ≤ nI i from nI_ge q (by decide)), fg_og_t (ix_nI q (by decide)), nI_clamp (by omega), nI_1]
      by_cases h : cl V i = 0
      · rw [if_pos (show V i ≤ 0 by rw [z1, h]; decide)]
        exact ih (i + 1) x (by omega) (by omega) hx (miss fun z => (mR_t.mp z).2 h)
      · rw [if_neg (show ¬ V i ≤ 0 by rw [z1]; exact nI_nle (by omega) (by omega))]
        exact ih (i + 1) _ (by omega) (by omega) (mk28_or hx q) (hit (mR_t.mpr ⟨q, h⟩))
    · rw [if_pos (show (28 : Int32) ≤ nI i from nI_le q (by omega))]
      exact ⟨x, rfl, hx, fun v hv => by rw [hb v hv]; exact ⟨fun h => h.2, fun h => ⟨by omega, h⟩⟩⟩
/-- promise 12 -/
theorem pf_left {B E C O : fg_A} {n : Int32} {N s t : Nat} (Hw : wfm B E C O n N) (hs : s < 28) (ht : t < 28) (hst : s ≠ t) (L V L2 V2 : fg_A) (th : Int32) :
    ∃ (r : Int32) (L' V' L3 V3 : fg_A), f_G_left B E C O n L V (nI s) (nI t) = some (r, L', V') ∧ f_M_left th n B E C O L2 V2 (nI s) (nI t) = some (r, 0, L3, V3) := by
  obtain ⟨y, L', V', j, L3, V3, a1, a2, a3, a4, a5, a6, a7⟩ := pf_sides Hw hs ht hst L V L2 V2
  obtain ⟨y2, c1, c2, c3⟩ := pf_l35 a6 fu 0 0 (by omega) (by decide) mk28_0 (fun v _ => by rw [b_0]; exact ⟨fun h => (by cases h), fun h => absurd h.1 (Nat.not_lt_zero v)⟩)
  have e1 : y = y2 := mk_ext a5 c2 fun v hv => by
    rw [a7 v]
    cases h1 : mR V3 v <;> cases h2 : bt y2 v
    · rfl
    · rw [(c3 v hv).mp h2] at h1; cases h1
    · rw [(c3 v hv).mpr h1] at h2; cases h2
    · rfl
  refine ⟨y, L', V', L3, V3, ?_, ?_⟩
  · unfold f_G_left
    rw [fg_ob_s (pf_needU hs ht hst), fg_ob_s a1]
  · have e2 : f_M_refuse th 0 0 = some (0, 0) := rfl
    unfold f_M_left
    rw [fg_ob_s (pf_unlike hs ht hst), if_neg (by decide), fg_ob_s e2]
    dsimp only
    rw [if_pos rfl, fg_ob_s a2]
    dsimp only
    rw [fg_ob_s (show f_M_left_35 V3 fu 0 0 = some y2 from c1), e1]
