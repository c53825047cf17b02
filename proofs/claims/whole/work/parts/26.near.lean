/-! The class's flow: what is found, what is pushed, the near side. -/
def fI (L : fg_A) (r : Nat) : Int := (L r).toInt
theorem ti_add {a b : Int32} (h1 : -20000 ≤ a.toInt) (h2 : a.toInt ≤ 20000) (h3 : -20000 ≤ b.toInt) (h4 : b.toInt ≤ 20000) : (a + b).toInt = a.toInt + b.toInt := by
  rw [Int32.toInt_add]
  exact Int.bmod_eq_of_le (by omega) (by omega)
theorem ti_sub {a b : Int32} (h1 : -20000 ≤ a.toInt) (h2 : a.toInt ≤ 20000) (h3 : -20000 ≤ b.toInt) (h4 : b.toInt ≤ 20000) : (a - b).toInt = a.toInt - b.toInt := by
  rw [Int32.toInt_sub]
  exact Int.bmod_eq_of_le (by omega) (by omega)
theorem ti_neg {b : Int32} (h3 : -20000 ≤ b.toInt) (h4 : b.toInt ≤ 20000) : (-b).toInt = -b.toInt := by
  rw [Int32.toInt_neg]
  exact Int.bmod_eq_of_le (by omega) (by omega)
theorem wfm.ci {B E C O : fg_A} {n : Int32} {N : Nat} (h : wfm B E C O n N) {r : Nat} (hr : r < N) : fI C r = (cl C r : Int) ∧ 1 ≤ fI C r ∧ fI C r ≤ 9 := by
  obtain ⟨-, -, -, ⟨h1, h2, h3⟩, -⟩ := h.2.2 r hr
  have e1 : fI C r = (cl C r : Int) := by
    unfold fI
    rw [h1]
    exact nI_toInt (by omega)
  exact ⟨e1, by omega, by omega⟩
theorem wfm.ne {B E C O : fg_A} {n : Int32} {N : Nat} (h : wfm B E C O n N) : ∀ r, r < N → cl B r ≠ cl E r := fun r hr => (h.2.2 r hr).2.2.1
/-- the class's search stands: x are the nodes found, V says how -/
def sp_T (B E C O : fg_A) (N s : Nat) (L V : fg_A) (x : Int32) : Prop :=
  mk28 x ∧ ∃ (rk : Nat → Nat) (K : Nat), tr_tree N (cl B) (cl E) (fI C) (onb O) s (fI L) (bt x) (cl V) rk K ∧ K ≤ ct (bt x) 28 ∧ ∀ v, bt x v = true → v ≠ s → V v = nI (cl V v)
theorem sp_T.lt {B E C O L V : fg_A} {N s : Nat} {x : Int32} (h : sp_T B E C O N s L V x) {v : Nat} (hv : bt x v = true) : v < 28 := by
  obtain ⟨-, rk, K, h1, -⟩ := h
  exact (h1.2.1 v hv).1
theorem sp_add {B E C O L V : fg_A} {n : Int32} {N s : Nat} {x : Int32} (Hw : wfm B E C O n N) (h : sp_T B E C O N s L V x) {v q : Nat} (hv : v < 28) (hx : bt x v = false) (hq : q < N) (hon : onb O q = true)
    (hd : (cl E q = v ∧ bt x (cl B q) = true ∧ fI L q < fI C q) ∨ (cl B q = v ∧ bt x (cl E q) = true ∧ 0 < fI L q)) :
    sp_T B E C O N s L (upd V v (nI q)) (x ||| ((1 : Int32) <<< (nI v &&& 31))) := by
  obtain ⟨h0, rk, K, h1, h2, h3⟩ := h
  have hq9 : q < 2 ^ 31 := by have := Hw.1; omega
  have hbt : ∀ w, (bt x w || decide (w = v)) = bt (x ||| ((1 : Int32) <<< (nI v &&& 31))) w := fun w => by
    rcases Nat.lt_or_ge w 32 with z | z
    · rw [mb_or (by omega) z]
    · rw [b_big z, b_big z, decide_eq_false (by omega)]; rfl
  have hcu : ∀ w, cl (upd V v (nI q)) w = if w = v then q else cl V w := fun w => by
    unfold cl
    by_cases z : w = v
    · rw [if_pos z, z, pk_us, nI_clamp hq9]
    · rw [if_neg z, pk_un z]
  refine ⟨mk28_or h0 hv, _, K + 1, tr_congr (tr_add h1 hv hx hq hon (Hw.ne q hq) hd) hbt (fun w _ _ => (hcu w).symm), ?_, fun w hw hws => ?_⟩
  · have := ct_lt (p := bt x) (q := bt (x ||| ((1 : Int32) <<< (nI v &&& 31)))) (n := 28) (j := v) (fun i _ hi => by rw [← hbt i, hi]; rfl) hv hx (by rw [← hbt v]; simp)
    omega
  · rw [hcu w]
    by_cases z : w = v
    · rw [if_pos z, z, pk_us]
    · rw [if_neg z, pk_un z]
      refine h3 w ?_ hws
      have := hbt w
      rw [hw, decide_eq_false z, Bool.or_false] at this
      exact this
theorem pf_s4 {B E C O L : fg_A} {n : Int32} {N s : Nat} (Hw : wfm B E C O n N) (hL : ∀ r, r < N → 0 < fI L r → onb O r = true) :
    ∀ (k i : Nat) (x : Int32) (V : fg_A), i ≤ N → N < i + k → sp_T B E C O N s L V x →
      ∃ y V', f_G_spreadByEachRule_4 B E C O n L k x (nI i) V = some (y, V') ∧ sp_T B E C O N s L V' y ∧ (∀ v, bt x v = true → bt y v = true) ∧
        ∀ r, i ≤ r → r < N → (onb O r = true → bt x (cl B r) = true → fI L r < fI C r → bt y (cl E r) = true) ∧ (bt x (cl E r) = true → 0 < fI L r → bt y (cl B r) = true) := by
  obtain ⟨hN, hn, hw⟩ := id Hw
  intro k
  induction k with
  | zero => intro i x V hi hk; omega
  | succ k ih =>
    intro i x V hi hk hT
    rw [f_G_spreadByEachRule_4]
    rcases Nat.lt_or_ge i N with q | q
    · obtain ⟨⟨hB, hB8⟩, ⟨hE, hE8⟩, -, -, -⟩ := hw i q
      have h90 : ix (nI i) 90 = true := ix_nI (by omega) (by decide)
      have hci : (nI i).toNatClampNeg = i := nI_clamp (by omega)
      have hxB : ix (nI (cl B i)) 28 = true := ix_nI hB8 (by decide)
      have hxE : ix (nI (cl E i)) 28 = true := ix_nI hE8 (by decide)
      have hcB : (nI (cl B i)).toNatClampNeg = cl B i := nI_clamp (by omega)
      have hcE : (nI (cl E i)).toNatClampNeg = cl E i := nI_clamp (by omega)
      have hlc : ∀ {a b : Int32}, (a ≤ b ↔ a.toInt ≤ b.toInt) := fun {a b} => Int32.le_iff_toInt_le
      have bitB : f_G_bit (nI (cl B i)) = some ((1 : Int32) <<< (nI (cl B i) &&& 31)) := rfl
      have bitE : f_G_bit (nI (cl E i)) = some ((1 : Int32) <<< (nI (cl E i) &&& 31)) := rfl
      -- nothing is found by rule i
      have go : ((onb O i = true → bt x (cl B i) = true → fI L i < fI C i → bt x (cl E i) = true) ∧ (bt x (cl E i) = true → 0 < fI L i → bt x (cl B i) = true)) →
          ∃ y V', f_G_spreadByEachRule_4 B E C O n L k x (nI (i + 1)) V = some (y, V') ∧ sp_T B E C O N s L V' y ∧ (∀ v, bt x v = true → bt y v = true) ∧
            ∀ r, i ≤ r → r < N → (onb O r = true → bt x (cl B r) = true → fI L r < fI C r → bt y (cl E r) = true) ∧ (bt x (cl E r) = true → 0 < fI L r → bt y (cl B r) = true) := fun hno => by
        obtain ⟨y, V', a1, a2, a3, a4⟩ := ih (i + 1) x V (by omega) (by omega) hT
        refine ⟨y, V', a1, a2, a3, fun r hr hrN => ?_⟩
        rcases Nat.lt_or_ge i r with w | w
        · exact a4 r (by omega) hrN
        · have e1 : r = i := by omega
          subst e1
          exact ⟨fun h1 h2 h3 => a3 _ (hno.1 h1 h2 h3), fun h1 h2 => a3 _ (hno.2 h1 h2)⟩
      -- a node is found by rule i
      have add : ∀ (v : Nat) (V2 : fg_A), sp_T B E C O N s L V2 (x ||| ((1 : Int32) <<< (nI v &&& 31))) → v < 28 → (onb O i = true → bt x (cl B i) = true → fI L i < fI C i → cl E i = v ∨ bt x (cl E i) = true) → (bt x (cl E i) = true → 0 < fI L i → cl B i = v ∨ bt x (cl B i) = true) →
          ∃ y V', f_G_spreadByEachRule_4 B E C O n L k (x ||| ((1 : Int32) <<< (nI v &&& 31))) (nI (i + 1)) V2 = some (y, V') ∧ sp_T B E C O N s L V' y ∧ (∀ v, bt x v = true → bt y v = true) ∧
            ∀ r, i ≤ r → r < N → (onb O r = true → bt x (cl B r) = true → fI L r < fI C r → bt y (cl E r) = true) ∧ (bt x (cl E r) = true → 0 < fI L r → bt y (cl B r) = true) := fun v V2 hT2 hv c1 c2 => by
        obtain ⟨y, V', a1, a2, a3, a4⟩ := ih (i + 1) _ V2 (by omega) (by omega) hT2
        have up : ∀ w, bt x w = true → bt y w = true := fun w hw => a3 w (by rw [b_or, hw]; rfl)
        have hyv : bt y v = true := a3 v (by rw [mb_or (by omega) (by omega)]; simp)
        refine ⟨y, V', a1, a2, up, fun r hr hrN => ?_⟩
        rcases Nat.lt_or_ge i r with w | w
        · obtain ⟨d1, d2⟩ := a4 r (by omega) hrN
          exact ⟨fun h1 h2 h3 => d1 h1 (by rw [b_or, h2]; rfl) h3, fun h1 h2 => d2 (by rw [b_or, h1]; rfl) h2⟩
        · have e1 : r = i := by omega
          subst e1
          refine ⟨fun h1 h2 h3 => ?_, fun h1 h2 => ?_⟩
          · rcases c1 h1 h2 h3 with z | z
            · rw [z]; exact hyv
            · exact up _ z
          · rcases c2 h1 h2 with z | z
            · rw [z]; exact hyv
            · exact up _ z
      rw [if_neg (show ¬ n ≤ nI i by rw [hn]; exact nI_ge q (by omega)), fg_og_t h90, fg_og_t h90, hci, hB, hE, fg_ob_s (pf_has (by omega)), fg_ob_s (pf_has (by omega)), nI_1]
      have p0 : ¬ (1 : Int32) = 0 := by decide
      by_cases hb : bt x (cl B i) = true
      · by_cases he : bt x (cl E i) = true
        · simp only [if_pos hb, if_pos he, if_neg p0]
          exact go ⟨fun _ _ _ => he, fun _ _ => hb⟩
        · have he2 : bt x (cl E i) = false := by simpa using he
          simp only [if_pos hb, if_neg he, if_neg p0, if_true]
          rw [fg_og_t h90]
          by_cases hO : O i = 0
          · rw [if_pos hO]
            exact go ⟨fun h => absurd hO (onb_ne h), fun h => absurd h he⟩
          · rw [if_neg hO, fg_og_t h90, fg_og_t h90]
            by_cases hLC : C i ≤ L i
            · rw [if_pos hLC]
              exact go ⟨fun _ _ h => absurd (hlc.mp hLC) (by unfold fI at h; omega), fun h => absurd h he⟩
            · rw [if_neg hLC, fg_ob_s bitE, fg_og_t hxE, hcE]
              have hlt : fI L i < fI C i := by rw [hlc] at hLC; unfold fI; omega
              exact add _ _ (sp_add Hw hT hE8 he2 q (onb_t hO) (Or.inl ⟨rfl, hb, hlt⟩)) hE8 (fun _ _ _ => Or.inl rfl) (fun h => absurd h he)
      · have hb2 : bt x (cl B i) = false := by simpa using hb
        by_cases he : bt x (cl E i) = true
        · simp only [if_neg hb, if_pos he, if_neg p0, if_true]
          rw [fg_og_t h90]
          by_cases hL0 : L i ≤ 0
          · rw [if_pos hL0]
            exact go ⟨fun _ h => absurd h hb, fun _ h => absurd (hlc.mp hL0) (by unfold fI at h; rw [Int32.toInt_zero]; omega)⟩
          · rw [if_neg hL0, fg_ob_s bitB, fg_og_t hxB, hcB]
            have hlt : 0 < fI L i := by rw [hlc, Int32.toInt_zero] at hL0; unfold fI; omega
            exact add _ _ (sp_add Hw hT hB8 hb2 q (hL i q hlt) (Or.inr ⟨rfl, he, hlt⟩)) hB8 (fun _ h => absurd h hb) (fun _ _ => Or.inl rfl)
        · simp only [if_neg hb, if_neg he, if_neg p0, if_true]
          exact go ⟨fun _ h => absurd h hb, fun h => absurd h he⟩
    · have e1 : i = N := by omega
      subst e1
      rw [if_pos (show n ≤ nI i by rw [hn]; exact nI_le (Nat.le_refl i) (by omega))]
      exact ⟨x, V, rfl, hT, fun _ h => h, fun r hr hrN => absurd hrN (by omega)⟩
theorem pf_s11 {B E C O L : fg_A} {n : Int32} {N s t : Nat} (Hw : wfm B E C O n N) (hL : ∀ r, r < N → 0 < fI L r → onb O r = true) (ht : t < 28) :
    ∀ (k j : Nat) (x y : Int32) (V : fg_A), j ≤ 28 → 28 < j + k → sp_T B E C O N s L V x → (x = y ∧ fl_clo N (cl B) (cl E) (fI C) (onb O) (fI L) (bt x) ∨ x ≠ y ∧ j + 1 ≤ ct (bt x) 28) →
      ∃ y' V', f_G_spread_11 B E C O n L (nI t) k x y (nI j) V = some (y', V') ∧ sp_T B E C O N s L V' y' ∧ (bt y' t = true ∨ fl_clo N (cl B) (cl E) (fI C) (onb O) (fI L) (bt y')) := by
  intro k
  induction k with
  | zero => intro j x y V hj hk; omega
  | succ k ih =>
    intro j x y V hj hk hT hc
    rw [f_G_spread_11]
    rcases hc with ⟨rfl, hcl⟩ | ⟨hne, hct⟩
    · by_cases q : (28 : Int32) ≤ nI j
      · rw [if_pos q]; exact ⟨x, V, rfl, hT, Or.inr hcl⟩
      · rw [if_neg q, if_pos rfl]; exact ⟨x, V, rfl, hT, Or.inr hcl⟩
    · have hj2 : j < 28 := by have := ct_le (p := bt x) 28; omega
      rw [if_neg (show ¬ (28 : Int32) ≤ nI j from nI_ge hj2 (by decide)), if_neg hne, fg_ob_s (pf_has (by omega))]
      by_cases h : bt x t = true
      · rw [if_pos h, if_neg (by decide)]
        exact ⟨x, V, rfl, hT, Or.inl h⟩
      · rw [if_neg h, if_pos rfl]
        obtain ⟨w, V', a1, a2, a3, a4⟩ := pf_s4 (s := s) Hw hL fu 0 x V (Nat.zero_le N) (by show N < 0 + 1000; have := Hw.1; omega) hT
        have g1 : f_G_spreadByEachRule B E C O n L V x = some (w, V') := by
          unfold f_G_spreadByEachRule
          rw [fg_ob_s (show f_G_spreadByEachRule_4 B E C O n L fu x 0 V = some (w, V') from a1)]
        rw [fg_ob_s g1, nI_1]
        dsimp only
        refine ih (j + 1) w x V' (by omega) (by omega) a2 ?_
        by_cases q : w = x
        · subst q
          exact Or.inl ⟨rfl, fun r hr => a4 r (Nat.zero_le r) hr⟩
        · refine Or.inr ⟨q, ?_⟩
          have : ∃ v, v < 28 ∧ bt x v = false ∧ bt w v = true := by
            apply Classical.byContradiction
            intro hno
            apply q
            refine mk_ext a2.1 hT.1 fun v hv => ?_
            cases h1 : bt x v with
            | true => exact a3 v h1
            | false =>
              cases h2 : bt w v with
              | false => rfl
              | true => exact (hno ⟨v, hv, h1, h2⟩).elim
          obtain ⟨v, v1, v2, v3⟩ := this
          have := ct_lt (p := bt x) (q := bt w) (fun i _ h => a3 i h) v1 v2 v3
          omega
theorem pf_spread {B E C O L : fg_A} {n : Int32} {N s t : Nat} (Hw : wfm B E C O n N) (hL : ∀ r, r < N → 0 < fI L r → onb O r = true) (hs : s < 28) (ht : t < 28) (V : fg_A) :
    ∃ y V', f_G_spread B E C O n L V (nI s) (nI t) = some (y, V') ∧ sp_T B E C O N s L V' y ∧ (bt y t = true ∨ fl_clo N (cl B) (cl E) (fI C) (onb O) (fI L) (bt y)) := by
  have hb : ∀ w, decide (w = s) = bt ((1 : Int32) <<< (nI s &&& 31)) w := fun w => by
    rcases Nat.lt_or_ge w 32 with z | z
    · rw [mb_one s (by omega) w z]
    · rw [b_big z, decide_eq_false (by omega)]
  have h1 : bt ((1 : Int32) <<< (nI s &&& 31)) s = true := by rw [← hb s]; simp
  have hct : 1 ≤ ct (bt ((1 : Int32) <<< (nI s &&& 31))) 28 := by
    have := ct_lt (p := fun _ => false) (q := bt ((1 : Int32) <<< (nI s &&& 31))) (fun _ _ h => (by cases h)) hs rfl h1
    omega
  have hT : sp_T B E C O N s L V ((1 : Int32) <<< (nI s &&& 31)) := by
    refine ⟨fun i hi => ?_, _, 1, tr_congr (tr_start (fI L) (cl V) hs) hb (fun _ _ _ => rfl), hct, fun v hv hvs => ?_⟩
    · rw [← hb i, decide_eq_false (by omega)]
    · rw [← hb v, decide_eq_true_eq] at hv
      exact absurd hv hvs
  obtain ⟨y, V', a1, a2, a3⟩ := pf_s11 (s := s) Hw hL ht fu 0 ((1 : Int32) <<< (nI s &&& 31)) 0 V (by omega) (by decide) hT (Or.inr ⟨fun q => (by rw [q, b_0] at h1; cases h1), by omega⟩)
  refine ⟨y, V', ?_, a2, a3⟩
  unfold f_G_spread
  rw [fg_ob_s (show f_G_bit (nI s) = some ((1 : Int32) <<< (nI s &&& 31)) from rfl), fg_ob_s (show f_G_spread_11 B E C O n L (nI t) fu ((1 : Int32) <<< (nI s &&& 31)) 0 0 V = some (y, V') from a1)]
