/-! Masks of nodes; what is reached; circles; what is passed. -/
theorem mb_one : ∀ v, v < 32 → ∀ i, i < 32 → bt ((1 : Int32) <<< (nI v &&& 31)) i = decide (i = v) := by decide +kernel
theorem mb_low : ∀ v, v < 28 → ∀ i, i < 32 → bt (((1 : Int32) <<< (nI v &&& 31)) - 1) i = decide (i < v) := by decide +kernel
theorem mb_lsb : ∀ i, i < 32 → bt 1 i = decide (i = 0) := by decide +kernel
theorem mb_has {x : Int32} {v : Nat} (hv : v < 32) : (x &&& ((1 : Int32) <<< (nI v &&& 31))) = 0 ↔ bt x v = false := by
  constructor
  · intro h
    have h1 := b_and x ((1 : Int32) <<< (nI v &&& 31)) v
    rw [h, b_0, mb_one v hv v hv] at h1
    simpa using h1.symm
  · intro h
    refine b_ext fun i hi => ?_
    rw [b_and, b_0, mb_one v hv i hi]
    by_cases q : i = v
    · rw [q, h]; rfl
    · simp [q]
theorem mb_bit {x : Int32} {v : Nat} (hv : v < 32) : ((x >>> (nI v &&& 31)) &&& 1) = 1 ↔ bt x v = true := by
  have h0 : bt (x >>> (nI v &&& 31)) 0 = bt x v := by rw [b_sshr v hv x (by omega), if_pos (by omega)]; rfl
  have h1 : ∀ i, i < 32 → bt ((x >>> (nI v &&& 31)) &&& 1) i = (decide (i = 0) && bt x v) := fun i hi => by
    rw [b_and, mb_lsb i hi]
    by_cases q : i = 0
    · rw [q, h0]; simp
    · simp [q]
  constructor
  · intro h
    have := h1 0 (by omega)
    rw [h, mb_lsb 0 (by omega)] at this
    simpa using this.symm
  · intro h
    refine b_ext fun i hi => ?_
    rw [h1 i hi, h, mb_lsb i hi]; simp
theorem pf_has {x : Int32} {v : Nat} (hv : v < 32) : f_G_has x (nI v) = some (if bt x v = true then 1 else 0) := by
  unfold f_G_has
  rw [fg_ob_s (show f_G_bit (nI v) = some ((1 : Int32) <<< (nI v &&& 31)) from rfl)]
  by_cases h : bt x v = true
  · rw [if_pos h, if_neg (fun q => by rw [mb_has hv] at q; rw [q] at h; cases h)]
  · rw [if_neg h, if_pos ((mb_has hv).mpr (by simpa using h))]
theorem mb_or {x : Int32} {v i : Nat} (hv : v < 32) (hi : i < 32) : bt (x ||| ((1 : Int32) <<< (nI v &&& 31))) i = (bt x i || decide (i = v)) := by rw [b_or, mb_one v hv i hi]
/-- the mask's nodes are below 28 -/
def mk28 (x : Int32) : Prop := ∀ i, 28 ≤ i → bt x i = false
theorem mk28_or {x : Int32} {v : Nat} (h : mk28 x) (hv : v < 28) : mk28 (x ||| ((1 : Int32) <<< (nI v &&& 31))) := fun i hi => by
  rcases Nat.lt_or_ge i 32 with q | q
  · rw [mb_or (by omega) q, h i hi, decide_eq_false (by omega)]; rfl
  · exact b_big q
theorem mk_ext {x y : Int32} (hx : mk28 x) (hy : mk28 y) (h : ∀ v, v < 28 → bt x v = bt y v) : x = y := b_ext fun i _ => by
  rcases Nat.lt_or_ge i 28 with q | q
  · exact h i q
  · rw [hx i q, hy i q]
/-- the rules that end at no closed node -/
def okc (E O : fg_A) (z : Int32) (r : Nat) : Bool := onb O r && !bt z (cl E r)
theorem okc_t {E O : fg_A} {z : Int32} {r : Nat} : okc E O z r = true ↔ (¬ O r = 0 ∧ bt z (cl E r) = false) := by
  unfold okc onb
  simp [Bool.and_eq_true]
theorem pf_r33 {B E C O : fg_A} {n z x6 x7 : Int32} {N s : Nat} (Hw : wfm B E C O n N) :
    ∀ (k i : Nat) (x : Int32), i ≤ N → N < i + k → mk28 x → (∀ v, bt x v = true → ∃ d, wk N (cl B) (cl E) (okc E O z) d s v) →
      ∃ y, f_G_reach_33 B E O n z x6 x7 k x (nI i) = some y ∧ mk28 y ∧ (∀ v, bt x v = true → bt y v = true) ∧ (∀ v, bt y v = true → ∃ d, wk N (cl B) (cl E) (okc E O z) d s v) ∧ ∀ r, i ≤ r → r < N → okc E O z r = true → bt x (cl B r) = true → bt y (cl E r) = true := by
  obtain ⟨hN, hn, hw⟩ := id Hw
  intro k
  induction k with
  | zero => intro i x hi hk; omega
  | succ k ih =>
    intro i x hi hk hx hs
    rw [f_G_reach_33]
    rcases Nat.lt_or_ge i N with q | q
    · obtain ⟨⟨hB, hB8⟩, ⟨hE, hE8⟩, -⟩ := hw i q
      have h90 : ix (nI i) 90 = true := ix_nI (by omega) (by decide)
      have hci : (nI i).toNatClampNeg = i := nI_clamp (by omega)
      rw [if_neg (show ¬ n ≤ nI i by rw [hn]; exact nI_ge q (by omega)), fg_og_t h90, hci, nI_1]
      have go : (okc E O z i = true → bt x (cl B i) = true → False) → ∃ y, f_G_reach_33 B E O n z x6 x7 k x (nI (i + 1)) = some y ∧ mk28 y ∧ (∀ v, bt x v = true → bt y v = true) ∧ (∀ v, bt y v = true → ∃ d, wk N (cl B) (cl E) (okc E O z) d s v) ∧ ∀ r, i ≤ r → r < N → okc E O z r = true → bt x (cl B r) = true → bt y (cl E r) = true := fun hno => by
        obtain ⟨y, a1, a2, a3, a4, a5⟩ := ih (i + 1) x (by omega) (by omega) hx hs
        refine ⟨y, a1, a2, a3, a4, fun r hr hrN ho hb => ?_⟩
        rcases Nat.lt_or_ge i r with w | w
        · exact a5 r (by omega) hrN ho hb
        · have e1 : r = i := by omega
          subst e1; exact (hno ho hb).elim
      by_cases hO : O i = 0
      · rw [if_pos hO]; exact go (fun ho => absurd hO (okc_t.mp ho).1)
      · rw [if_neg hO, fg_og_t h90, hB, fg_ob_s (pf_has (by omega))]
        by_cases hb : bt x (cl B i) = true
        · rw [if_pos hb, if_neg (by decide), fg_og_t h90, hE, fg_ob_s (pf_has (by omega))]
          by_cases hz : bt z (cl E i) = true
          · rw [if_pos hz, if_neg (by decide)]
            exact go (fun ho => by rw [(okc_t.mp ho).2] at hz; cases hz)
          · have hz2 : bt z (cl E i) = false := by simpa using hz
            rw [if_neg hz, if_pos rfl, fg_og_t h90, fg_ob_s (show f_G_bit (nI (cl E i)) = some ((1 : Int32) <<< (nI (cl E i) &&& 31)) from rfl)]
            have hoi : okc E O z i = true := okc_t.mpr ⟨hO, hz2⟩
            obtain ⟨y, a1, a2, a3, a4, a5⟩ := ih (i + 1) (x ||| ((1 : Int32) <<< (nI (cl E i) &&& 31))) (by omega) (by omega) (mk28_or hx hE8) (fun v hv => by
              rcases Nat.lt_or_ge v 32 with w | w
              · rw [mb_or (by omega) w, Bool.or_eq_true, decide_eq_true_eq] at hv
                rcases hv with hv | hv
                · exact hs v hv
                · obtain ⟨d, hd⟩ := hs _ hb
                  rw [hv]
                  exact ⟨d + 1, wk_snoc hd q hoi rfl⟩
              · rw [b_big w] at hv; cases hv)
            have up : ∀ v, bt x v = true → bt y v = true := fun v hv => a3 v (by rw [b_or, hv]; rfl)
            refine ⟨y, a1, a2, up, a4, fun r hr hrN ho hb2 => ?_⟩
            rcases Nat.lt_or_ge i r with w | w
            · exact a5 r (by omega) hrN ho (by rw [b_or, hb2]; rfl)
            · have e1 : r = i := by omega
              subst e1
              exact a3 _ (by rw [mb_or (by omega) (by omega)]; simp)
        · rw [if_neg hb, if_pos rfl]
          exact go (fun _ h => hb h)
    · have e1 : i = N := by omega
      subst e1
      rw [if_pos (show n ≤ nI i by rw [hn]; exact nI_le (Nat.le_refl i) (by omega))]
      exact ⟨x, rfl, hx, fun _ h => h, hs, fun r hr hrN => absurd hrN (by omega)⟩
theorem pf_r12 {B E C O : fg_A} {n z : Int32} {N s : Nat} (Hw : wfm B E C O n N) :
    ∀ (k j : Nat) (x y : Int32), j ≤ 28 → 28 < j + k → mk28 x → bt x s = true → (∀ v, bt x v = true → ∃ d, wk N (cl B) (cl E) (okc E O z) d s v) →
      (x = y ∧ (∀ r, r < N → okc E O z r = true → bt x (cl B r) = true → bt x (cl E r) = true) ∨ x ≠ y ∧ j + 1 ≤ ct (bt x) 28) →
      ∃ y', f_G_reach_12 B E O n z k x y (nI j) = some y' ∧ mk28 y' ∧ bt y' s = true ∧ (∀ v, bt y' v = true → ∃ d, wk N (cl B) (cl E) (okc E O z) d s v) ∧ ∀ r, r < N → okc E O z r = true → bt y' (cl B r) = true → bt y' (cl E r) = true := by
  intro k
  induction k with
  | zero => intro j x y hj hk; omega
  | succ k ih =>
    intro j x y hj hk hx hxs hs hc
    rw [f_G_reach_12]
    rcases hc with ⟨rfl, hcl⟩ | ⟨hne, hct⟩
    · by_cases q : (28 : Int32) ≤ nI j
      · rw [if_pos q]; exact ⟨x, rfl, hx, hxs, hs, hcl⟩
      · rw [if_neg q, if_pos rfl]; exact ⟨x, rfl, hx, hxs, hs, hcl⟩
    · have hj2 : j < 28 := by have := ct_le (p := bt x) 28; omega
      rw [if_neg (show ¬ (28 : Int32) ≤ nI j from nI_ge hj2 (by decide)), if_neg hne]
      obtain ⟨w, a1, a2, a3, a4, a5⟩ := pf_r33 (z := z) (x6 := x) (x7 := nI j) (s := s) Hw fu 0 x (Nat.zero_le N) (by show N < 0 + 1000; have := Hw.1; omega) hx hs
      rw [fg_ob_s (show f_G_reach_33 B E O n z x (nI j) fu x 0 = some w from a1), nI_1]
      refine ih (j + 1) w x (by omega) (by omega) a2 (a3 s hxs) a4 ?_
      by_cases q : w = x
      · subst q
        exact Or.inl ⟨rfl, fun r hr ho hb => a5 r (Nat.zero_le r) hr ho hb⟩
      · refine Or.inr ⟨q, ?_⟩
        have : ∃ v, v < 28 ∧ bt x v = false ∧ bt w v = true := by
          apply Classical.byContradiction
          intro hno
          apply q
          refine mk_ext a2 hx fun v hv => ?_
          cases h1 : bt x v with
          | true => exact a3 v h1
          | false =>
            cases h2 : bt w v with
            | false => rfl
            | true => exact (hno ⟨v, hv, h1, h2⟩).elim
        obtain ⟨v, v1, v2, v3⟩ := this
        have := ct_lt (p := bt x) (q := bt w) (fun i _ h => a3 i h) v1 v2 v3
        omega
/-- what the class reaches -/
theorem pf_reach {B E C O : fg_A} {n z : Int32} {N s : Nat} (Hw : wfm B E C O n N) (hs : s < 28) :
    ∃ y, f_G_reach B E O n (nI s) z = some y ∧ mk28 y ∧ ∀ v, bt y v = true ↔ ∃ d, wk N (cl B) (cl E) (okc E O z) d s v := by
  have h0 : mk28 ((1 : Int32) <<< (nI s &&& 31)) := fun i hi => by
    rcases Nat.lt_or_ge i 32 with q | q
    · rw [mb_one s (by omega) i q, decide_eq_false (by omega)]
    · exact b_big q
  have h1 : bt ((1 : Int32) <<< (nI s &&& 31)) s = true := by rw [mb_one s (by omega) s (by omega)]; simp
  have h2 : ∀ v, bt ((1 : Int32) <<< (nI s &&& 31)) v = true → ∃ d, wk N (cl B) (cl E) (okc E O z) d s v := fun v hv => by
    rcases Nat.lt_or_ge v 32 with q | q
    · rw [mb_one s (by omega) v q, decide_eq_true_eq] at hv
      exact ⟨0, hv.symm⟩
    · rw [b_big q] at hv; cases hv
  obtain ⟨y, a1, a2, a3, a4, a5⟩ := pf_r12 (z := z) Hw fu 0 ((1 : Int32) <<< (nI s &&& 31)) 0 (by omega) (by decide) h0 h1 h2 (Or.inr ⟨fun q => (by rw [q, b_0] at h1; cases h1), by
    have := ct_lt (p := fun _ => false) (q := bt ((1 : Int32) <<< (nI s &&& 31))) (fun _ _ h => (by cases h)) hs rfl h1
    omega⟩)
  refine ⟨y, ?_, a2, fun v => ⟨a4 v, fun ⟨d, hd⟩ => wk_fwd (T := bt y) a5 hd a3⟩⟩
  unfold f_G_reach
  rw [fg_ob_s (show f_G_bit (nI s) = some ((1 : Int32) <<< (nI s &&& 31)) from rfl), fg_ob_s (show f_G_reach_12 B E O n z fu ((1 : Int32) <<< (nI s &&& 31)) 0 0 = some y from a1)]
theorem okc_0 {E O : fg_A} (r : Nat) : okc E O 0 r = onb O r := by unfold okc; rw [b_0]; simp
theorem wk_0 {B E O : fg_A} {N d x y : Nat} : wk N (cl B) (cl E) (okc E O 0) d x y ↔ wk N (cl B) (cl E) (onb O) d x y :=
  ⟨wk_congr fun r _ h => by rw [← okc_0 (E := E)]; exact h, wk_congr fun r _ h => by rw [okc_0]; exact h⟩
theorem wfm.swap {B E C O : fg_A} {n : Int32} {N : Nat} (h : wfm B E C O n N) : wfm E B C O n N :=
  ⟨h.1, h.2.1, fun r hr => by obtain ⟨a1, a2, a3, a4, a5⟩ := h.2.2 r hr; exact ⟨a2, a1, fun q => a3 q.symm, a4, a5⟩⟩
/-- x and y go in a circle -/
def scc (B E O : fg_A) (N x y : Nat) : Prop := (∃ d, wk N (cl B) (cl E) (onb O) d x y) ∧ ∃ d, wk N (cl B) (cl E) (onb O) d y x
theorem scc_symm {B E O : fg_A} {N x y : Nat} (h : scc B E O N x y) : scc B E O N y x := ⟨h.2, h.1⟩
theorem scc_trans {B E O : fg_A} {N x y z : Nat} (h : scc B E O N x y) (k : scc B E O N y z) : scc B E O N x z := by
  obtain ⟨⟨d1, h1⟩, ⟨d2, h2⟩⟩ := h
  obtain ⟨⟨d3, h3⟩, ⟨d4, h4⟩⟩ := k
  exact ⟨⟨_, wk_app h1 h3⟩, ⟨_, wk_app h4 h2⟩⟩
theorem scc_refl {B E O : fg_A} {N x : Nat} : scc B E O N x x := ⟨⟨0, rfl⟩, ⟨0, rfl⟩⟩
/-- the class's circle -/
theorem pf_circ {B E C O : fg_A} {n : Int32} {N v : Nat} (Hw : wfm B E C O n N) (hv : v < 28) : ∃ y, f_G_circleOf B E O n (nI v) = some y ∧ mk28 y ∧ ∀ w, bt y w = true ↔ scc B E O N v w := by
  obtain ⟨y1, a1, a2, a3⟩ := pf_reach (z := 0) Hw hv
  obtain ⟨y2, c1, c2, c3⟩ := pf_reach (z := 0) Hw.swap hv
  refine ⟨y1 &&& y2, ?_, fun i hi => by rw [b_and, a2 i hi]; rfl, fun w => ?_⟩
  · unfold f_G_circleOf
    rw [fg_ob_s a1, fg_ob_s c1]
  · rw [b_and, Bool.and_eq_true, a3, c3]
    unfold scc
    constructor
    · rintro ⟨⟨d, hd⟩, ⟨i, hi⟩⟩
      exact ⟨⟨d, wk_0.mp hd⟩, ⟨i, wk_rev (wk_0.mp hi)⟩⟩
    · rintro ⟨⟨d, hd⟩, ⟨i, hi⟩⟩
      exact ⟨⟨d, wk_0.mpr hd⟩, ⟨i, wk_0.mpr (wk_rev hi)⟩⟩
