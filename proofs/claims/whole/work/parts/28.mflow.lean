/-! The reference's flow. -/
theorem fg_og_tt {β : Type} {x : Option β} : fg_og true x = x := rfl
/-- the nodes that the reference has come to, and by which rule -/
def mR (V : fg_A) (v : Nat) : Bool := decide (v < 28) && !decide (cl V v = 0)
def mvr (V : fg_A) (v : Nat) : Nat := (cl V v - 2) / 2
theorem mR_t {V : fg_A} {v : Nat} : mR V v = true ↔ v < 28 ∧ cl V v ≠ 0 := by unfold mR; simp
def mT (B E C O : fg_A) (N s : Nat) (L V : fg_A) : Prop :=
  (∀ v, v < 28 → V v = nI (cl V v) ∧ cl V v ≤ 200) ∧ ∃ (rk : Nat → Nat) (K : Nat), tr_tree N (cl B) (cl E) (fI C) (onb O) s (fI L) (mR V) (mvr V) rk K ∧ K ≤ ct (mR V) 28 ∧
    ∀ v, mR V v = true → v ≠ s → (cl V v = 2 + 2 * mvr V v ∧ cl E (mvr V v) = v) ∨ (cl V v = 3 + 2 * mvr V v ∧ cl B (mvr V v) = v)
theorem cl_upd {V : fg_A} {v w x : Nat} (h : w < 2 ^ 31) : cl (upd V v (nI w)) x = if x = v then w else cl V x := by
  unfold cl
  by_cases z : x = v
  · rw [if_pos z, z, pk_us, nI_clamp h]
  · rw [if_neg z, pk_un z]
theorem mt_add {B E C O L V : fg_A} {n : Int32} {N s : Nat} (Hw : wfm B E C O n N) (h : mT B E C O N s L V) {v q w : Nat} (hv : v < 28) (hx : mR V v = false) (hq : q < N) (hon : onb O q = true)
    (hd : (w = 2 + 2 * q ∧ cl E q = v ∧ mR V (cl B q) = true ∧ fI L q < fI C q) ∨ (w = 3 + 2 * q ∧ cl B q = v ∧ mR V (cl E q) = true ∧ 0 < fI L q)) :
    mT B E C O N s L (upd V v (nI w)) ∧ ct (mR V) 28 < ct (mR (upd V v (nI w))) 28 := by
  obtain ⟨h0, rk, K, h1, h2, h3⟩ := h
  have hN := Hw.1
  have hw : w ≤ 200 ∧ w ≠ 0 ∧ (w - 2) / 2 = q := by rcases hd with ⟨rfl, -⟩ | ⟨rfl, -⟩ <;> omega
  have hc : ∀ x, cl (upd V v (nI w)) x = if x = v then w else cl V x := fun x => cl_upd (by omega)
  have hR : ∀ x, (mR V x || decide (x = v)) = mR (upd V v (nI w)) x := fun x => by
    unfold mR
    rw [hc x]
    by_cases z : x = v
    · rw [if_pos z, z, decide_eq_false hw.2.1, decide_eq_true hv]; simp
    · rw [if_neg z, decide_eq_false z]; simp
  have hvr : ∀ x, mvr (upd V v (nI w)) x = if x = v then q else mvr V x := fun x => by
    unfold mvr
    rw [hc x]
    by_cases z : x = v
    · rw [if_pos z, if_pos z]; exact hw.2.2
    · rw [if_neg z, if_neg z]
  have hct : ct (mR V) 28 < ct (mR (upd V v (nI w))) 28 := ct_lt (j := v) (fun i _ hi => by rw [← hR i, hi]; rfl) hv hx (by rw [← hR v]; simp)
  have hd' : (cl E q = v ∧ mR V (cl B q) = true ∧ fI L q < fI C q) ∨ (cl B q = v ∧ mR V (cl E q) = true ∧ 0 < fI L q) := by
    rcases hd with ⟨-, a⟩ | ⟨-, a⟩
    · exact Or.inl a
    · exact Or.inr a
  refine ⟨⟨fun x hx => ?_, _, K + 1, tr_congr (tr_add h1 hv hx hq hon (Hw.ne q hq) hd') hR (fun x _ _ => (hvr x).symm), by omega, fun x hxR hxs => ?_⟩, hct⟩
  · rw [hc x]
    by_cases z : x = v
    · rw [if_pos z, z, pk_us]; exact ⟨rfl, hw.1⟩
    · rw [if_neg z, pk_un z]; exact h0 x hx
  · rw [hc x, hvr x]
    by_cases z : x = v
    · rw [if_pos z, if_pos z]
      rcases hd with ⟨a1, a2, -⟩ | ⟨a1, a2, -⟩
      · exact Or.inl ⟨a1, by rw [a2, z]⟩
      · exact Or.inr ⟨a1, by rw [a2, z]⟩
    · rw [if_neg z, if_neg z]
      refine h3 x ?_ hxs
      have := hR x
      rw [hxR, decide_eq_false z, Bool.or_false] at this
      exact this
/-- rule r adds no node -/
def mN (B E C O L V : fg_A) (r : Nat) : Prop := (onb O r = true → mR V (cl B r) = true → fI L r < fI C r → mR V (cl E r) = true) ∧ (mR V (cl E r) = true → 0 < fI L r → mR V (cl B r) = true)
theorem pf_ms38 {B E C O L : fg_A} {n : Int32} {N s : Nat} (Hw : wfm B E C O n N) (hL : ∀ r, r < N → 0 < fI L r → onb O r = true) :
    ∀ (k i : Nat) (g : Int32) (V : fg_A), i ≤ N → N < i + k → mT B E C O N s L V →
      ∃ g' V', f_M_spread_38 n B E C O L k g (nI i) V = some (g', V') ∧ mT B E C O N s L V' ∧ ((g' = g ∧ V' = V ∧ ∀ r, i ≤ r → r < N → mN B E C O L V r) ∨ (g' = 1 ∧ ct (mR V) 28 < ct (mR V') 28)) := by
  obtain ⟨hN, hn, hw⟩ := id Hw
  intro k
  induction k with
  | zero => intro i g V hi hk; omega
  | succ k ih =>
    intro i g V hi hk hT
    rw [f_M_spread_38]
    rcases Nat.lt_or_ge i N with q | q
    · obtain ⟨⟨hB, hB8⟩, ⟨hE, hE8⟩, hne, -, -⟩ := hw i q
      obtain ⟨hVb, hVb2⟩ := hT.1 _ hB8
      obtain ⟨hVe, hVe2⟩ := hT.1 _ hE8
      have h90 : ix (nI i) 90 = true := ix_nI (by omega) (by decide)
      have hci : (nI i).toNatClampNeg = i := nI_clamp (by omega)
      have hcB : (B i).toNatClampNeg = cl B i := rfl
      have hcE : (E i).toNatClampNeg = cl E i := rfl
      have hxB : ix (B i) 28 = true := by rw [hB]; exact ix_nI hB8 (by decide)
      have hxE : ix (E i) 28 = true := by rw [hE]; exact ix_nI hE8 (by decide)
      have hlc : ∀ {a b : Int32}, (a ≤ b ↔ a.toInt ≤ b.toInt) := fun {a b} => Int32.le_iff_toInt_le
      have le0 : ∀ {v}, v < 28 → (V v ≤ 0 ↔ cl V v = 0) := fun {v} hv => by
        rw [(hT.1 v hv).1, show (0 : Int32) = nI 0 from rfl, nI_leI (by have := (hT.1 v hv).2; omega) (by decide)]
        omega
      have eq0 : ∀ {v}, v < 28 → (V v = 0 ↔ cl V v = 0) := fun {v} hv => by
        rw [← le0 hv]
        constructor
        · intro z; rw [z]; decide
        · intro z
          have h1 := (le0 hv).mp z
          rw [(hT.1 v hv).1, h1]; rfl
      have w2 : (2 : Int32) + 2 * nI i = nI (2 + 2 * i) := by rw [show (2 : Int32) = nI 2 from rfl, pk_mul, nI_add]
      have w3 : (3 : Int32) + 2 * nI i = nI (3 + 2 * i) := by rw [show (3 : Int32) = nI 3 from rfl, show (2 : Int32) = nI 2 from rfl, pk_mul, nI_add]
      have go : mN B E C O L V i → ∃ g' V', f_M_spread_38 n B E C O L k g (nI (i + 1)) V = some (g', V') ∧ mT B E C O N s L V' ∧ ((g' = g ∧ V' = V ∧ ∀ r, i ≤ r → r < N → mN B E C O L V r) ∨ (g' = 1 ∧ ct (mR V) 28 < ct (mR V') 28)) := fun hno => by
        obtain ⟨g', V', a1, a2, a3⟩ := ih (i + 1) g V (by omega) (by omega) hT
        refine ⟨g', V', a1, a2, ?_⟩
        rcases a3 with ⟨c1, c2, c3⟩ | a3
        · refine Or.inl ⟨c1, c2, fun r hr hrN => ?_⟩
          rcases Nat.lt_or_ge i r with w | w
          · exact c3 r (by omega) hrN
          · have e1 : r = i := by omega
            rw [e1]; exact hno
        · exact Or.inr a3
      have add : ∀ V2, mT B E C O N s L V2 → ct (mR V) 28 < ct (mR V2) 28 → ∃ g' V', f_M_spread_38 n B E C O L k 1 (nI (i + 1)) V2 = some (g', V') ∧ mT B E C O N s L V' ∧ ((g' = g ∧ V' = V ∧ ∀ r, i ≤ r → r < N → mN B E C O L V r) ∨ (g' = 1 ∧ ct (mR V) 28 < ct (mR V') 28)) := fun V2 hT2 hct => by
        obtain ⟨g', V', a1, a2, a3⟩ := ih (i + 1) 1 V2 (by omega) (by omega) hT2
        refine ⟨g', V', a1, a2, Or.inr ?_⟩
        rcases a3 with ⟨c1, c2, -⟩ | ⟨c1, c2⟩
        · rw [c2]; exact ⟨c1, hct⟩
        · exact ⟨c1, by omega⟩
      have rt : ∀ {v}, v < 28 → (mR V v = true ↔ cl V v ≠ 0) := fun {v} hv => by rw [mR_t]; exact ⟨fun z => z.2, fun z => ⟨hv, z⟩⟩
      rw [if_neg (show ¬ n ≤ nI i by rw [hn]; exact nI_ge q (by omega))]
      simp only [h90, hci, hxB, hxE, hcB, hcE, nI_1, fg_og_tt, w2, w3]
      by_cases hO : O i = 0
      · simp only [if_pos hO]
        exact go ⟨fun h => absurd hO (onb_ne h), fun _ h => absurd hO (onb_ne (hL i q h))⟩
      · simp only [if_neg hO]
        by_cases hb : cl V (cl B i) = 0
        · have hb1 : V (cl B i) ≤ 0 := (le0 hB8).mpr hb
          have hb2 : V (cl B i) = 0 := (eq0 hB8).mpr hb
          simp only [if_pos hb1, if_pos hb2]
          by_cases he : cl V (cl E i) = 0
          · simp only [if_pos ((le0 hE8).mpr he)]
            exact go ⟨fun _ h => absurd hb ((rt hB8).mp h), fun h => absurd he ((rt hE8).mp h)⟩
          · simp only [if_neg (fun z => he ((le0 hE8).mp z))]
            by_cases hl : L i ≤ 0
            · simp only [if_pos hl]
              exact go ⟨fun _ h => absurd hb ((rt hB8).mp h), fun _ h => absurd (hlc.mp hl) (by unfold fI at h; rw [Int32.toInt_zero]; omega)⟩
            · simp only [if_neg hl]
              have hlt : 0 < fI L i := by rw [hlc, Int32.toInt_zero] at hl; unfold fI; omega
              obtain ⟨m1, m2⟩ := mt_add Hw hT (w := 3 + 2 * i) hB8 (by cases z : mR V (cl B i) with | false => rfl | true => exact absurd hb ((rt hB8).mp z)) q (onb_t hO) (Or.inr ⟨rfl, rfl, (rt hE8).mpr he, hlt⟩)
              exact add _ m1 m2
        · have hb1 : ¬ V (cl B i) ≤ 0 := fun z => hb ((le0 hB8).mp z)
          have hb2 : ¬ V (cl B i) = 0 := fun z => hb ((eq0 hB8).mp z)
          simp only [if_neg hb1, if_neg hb2]
          by_cases he : cl V (cl E i) = 0
          · have he1 : V (cl E i) ≤ 0 := (le0 hE8).mpr he
            have he2 : V (cl E i) = 0 := (eq0 hE8).mpr he
            simp only [if_pos he1, if_pos he2]
            by_cases hl : C i ≤ L i
            · simp only [if_pos hl]
              exact go ⟨fun _ _ h => absurd (hlc.mp hl) (by unfold fI at h; omega), fun h => absurd he ((rt hE8).mp h)⟩
            · simp only [if_neg hl]
              have hlt : fI L i < fI C i := by rw [hlc] at hl; unfold fI; omega
              have u1 : ¬ upd V (cl E i) (nI (2 + 2 * i)) (cl E i) ≤ 0 := by rw [pk_us]; exact nI_nle (by omega) (by omega)
              have u2 : ¬ upd V (cl E i) (nI (2 + 2 * i)) (cl B i) = 0 := by rw [pk_un hne]; exact hb2
              simp only [if_neg u1, if_neg u2]
              obtain ⟨m1, m2⟩ := mt_add Hw hT (w := 2 + 2 * i) hE8 (by cases z : mR V (cl E i) with | false => rfl | true => exact absurd he ((rt hE8).mp z)) q (onb_t hO) (Or.inl ⟨rfl, rfl, (rt hB8).mpr hb, hlt⟩)
              exact add _ m1 m2
          · have he1 : ¬ V (cl E i) ≤ 0 := fun z => he ((le0 hE8).mp z)
            have he2 : ¬ V (cl E i) = 0 := fun z => he ((eq0 hE8).mp z)
            simp only [if_neg he1, if_neg he2]
            exact go ⟨fun _ _ _ => (rt hE8).mpr he, fun _ _ => (rt hB8).mpr hb⟩
    · have e1 : i = N := by omega
      subst e1
      rw [if_pos (show n ≤ nI i by rw [hn]; exact nI_le (Nat.le_refl i) (by omega))]
      exact ⟨g, V, rfl, hT, Or.inl ⟨rfl, rfl, fun r hr hrN => absurd hrN (by omega)⟩⟩
theorem pf_ms30 {B E C O L : fg_A} {n : Int32} {N s : Nat} (Hw : wfm B E C O n N) (hL : ∀ r, r < N → 0 < fI L r → onb O r = true) :
    ∀ (k : Nat) (g : Int32) (V : fg_A), mT B E C O N s L V → (g = 0 ∧ fl_clo N (cl B) (cl E) (fI C) (onb O) (fI L) (mR V) ∧ 28 < ct (mR V) 28 + k ∨ g = 1 ∧ 29 < ct (mR V) 28 + k) →
      ∃ V', f_M_spread_30 n B E C O L k g V = some V' ∧ mT B E C O N s L V' ∧ fl_clo N (cl B) (cl E) (fI C) (onb O) (fI L) (mR V') := by
  intro k
  induction k with
  | zero =>
    intro g V hT hg
    have := ct_le (p := mR V) 28
    rcases hg with ⟨-, -, h⟩ | ⟨-, h⟩ <;> omega
  | succ k ih =>
    intro g V hT hg
    rw [f_M_spread_30]
    rcases hg with ⟨rfl, hc, -⟩ | ⟨rfl, hk⟩
    · rw [if_pos rfl]; exact ⟨V, rfl, hT, hc⟩
    · rw [if_neg (by decide)]
      obtain ⟨g', V', a1, a2, a3⟩ := pf_ms38 (s := s) Hw hL fu 0 0 V (Nat.zero_le N) (by show N < 0 + 1000; have := Hw.1; omega) hT
      rw [fg_ob_s (show f_M_spread_38 n B E C O L fu 0 0 V = some (g', V') from a1)]
      dsimp only
      refine ih g' V' a2 ?_
      rcases a3 with ⟨c1, c2, c3⟩ | ⟨c1, c2⟩
      · subst c2
        exact Or.inl ⟨c1, fun r hr => c3 r (Nat.zero_le r) hr, by omega⟩
      · exact Or.inr ⟨c1, by omega⟩
theorem pf_mspread {B E C O L : fg_A} {n : Int32} {N s : Nat} (Hw : wfm B E C O n N) (hL : ∀ r, r < N → 0 < fI L r → onb O r = true) (hs : s < 28) (V : fg_A) :
    ∃ V', f_M_spread n B E C O L V (nI s) = some V' ∧ mT B E C O N s L V' ∧ fl_clo N (cl B) (cl E) (fI C) (onb O) (fI L) (mR V') := by
  obtain ⟨V1, a1, a2⟩ := pf_fill (h := f_M_spread_2 (nI s)) (z := 0) (fun _ _ _ => rfl) fu 0 V (by omega) (by decide) (fun x hx => absurd hx (Nat.not_lt_zero x))
  have hc : ∀ x, cl (upd V1 s (nI 1)) x = if x = s then 1 else cl V1 x := fun x => cl_upd (by decide)
  have h0 : ∀ x, x < 28 → cl V1 x = 0 := fun x hx => by unfold cl; rw [a2 x hx]; rfl
  have hR : ∀ x, decide (x = s) = mR (upd V1 s (nI 1)) x := fun x => by
    unfold mR
    rw [hc x]
    by_cases z : x = s
    · rw [if_pos z, z, decide_eq_true hs]; simp
    · rw [if_neg z, decide_eq_false z]
      by_cases w : x < 28
      · rw [h0 x w]; simp
      · rw [decide_eq_false w]; rfl
  have hct : 1 ≤ ct (mR (upd V1 s (nI 1))) 28 := by
    have := ct_lt (p := fun _ => false) (q := mR (upd V1 s (nI 1))) (fun _ _ h => (by cases h)) hs rfl (by rw [← hR s]; simp)
    omega
  have hT : mT B E C O N s L (upd V1 s (nI 1)) := by
    refine ⟨fun x hx => ?_, _, 1, tr_congr (tr_start (fI L) (mvr (upd V1 s (nI 1))) hs) hR (fun _ _ _ => rfl), hct, fun x hx hxs => ?_⟩
    · rw [hc x]
      by_cases z : x = s
      · rw [if_pos z, z, pk_us]; exact ⟨rfl, by omega⟩
      · rw [if_neg z, pk_un z, a2 x hx, h0 x hx]; exact ⟨rfl, by omega⟩
    · rw [← hR x, decide_eq_true_eq] at hx
      exact absurd hx hxs
  obtain ⟨V', c1, c2, c3⟩ := pf_ms30 (s := s) Hw hL fu 1 _ hT (Or.inr ⟨rfl, by show 29 < _ + 1000; omega⟩)
  refine ⟨V', ?_, c2, c3⟩
  unfold f_M_spread
  rw [fg_ob_s (show f_M_spread_2 (nI s) fu 0 V = some V1 from a1), fg_og_t (ix_nI hs (by decide)), nI_clamp (by omega), fg_ob_s (show f_M_spread_30 n B E C O L fu 1 (upd V1 s 1) = some V' from c1)]
theorem pf_mp2 {B E C O L0 V : fg_A} {n : Int32} {N s : Nat} {rk : Nat → Nat} {K : Nat} (Hw : wfm B E C O n N) (hs : s < 28) (hv0 : ∀ v, v < 28 → V v = nI (cl V v) ∧ cl V v ≤ 200) (hT : tr_tree N (cl B) (cl E) (fI C) (onb O) s (fI L0) (mR V) (mvr V) rk K)
    (hV : ∀ v, mR V v = true → v ≠ s → (cl V v = 2 + 2 * mvr V v ∧ cl E (mvr V v) = v) ∨ (cl V v = 3 + 2 * mvr V v ∧ cl B (mvr V v) = v)) :
    ∀ (kk k v M : Nat) (L : fg_A), mR V v = true → rk v < kk → kk ≤ k → M + kk ≤ 5000 → (∀ r, r < N → -(M : Int) ≤ fI L r ∧ fI L r ≤ M) →
      ∃ L', f_M_push_2 B E V (nI s) k (nI v) L = some L' ∧ fI L' = tr_pu (cl B) (cl E) s (mvr V) 1 kk (fI L) v := by
  intro kk
  induction kk with
  | zero => intro k v M L hv hk; omega
  | succ kk ih =>
    intro k v M L hv hk hkk hM hLb
    obtain ⟨k, rfl⟩ : ∃ j, k = j + 1 := ⟨k - 1, by omega⟩
    have hv8 := (hT.2.1 v hv).1
    rw [f_M_push_2]
    by_cases q : v = s
    · rw [if_pos (by rw [q])]
      refine ⟨L, rfl, ?_⟩
      show fI L = if v = s then fI L else _
      rw [if_pos q]
    · rw [if_neg (fun z => q ((nI_eq (by omega) (by omega)).mp z))]
      obtain ⟨g1, g2, g3, g4, g5, g6⟩ := hT.2.2 v hv q
      have hN := Hw.1
      obtain ⟨⟨hB, hB8⟩, ⟨hE, hE8⟩, hne, -, -⟩ := Hw.2.2 _ g1
      have hb := hLb _ g1
      obtain ⟨e1, e2⟩ := hv0 v hv8
      have e0 : (nI v).toNatClampNeg = v := nI_clamp (by omega)
      have hge : 2 ≤ cl V v := by rcases hV v hv q with ⟨a, -⟩ | ⟨a, -⟩ <;> omega
      have hr : (V v - 2) / 2 = nI (mvr V v) := by
        rw [e1, show (2 : Int32) = nI 2 from rfl, pk_sub hge, pk_div (by omega) (by decide) (by decide)]; rfl
      have hm : V v - V v / 2 * 2 = nI (cl V v % 2) := by
        rw [e1, show (2 : Int32) = nI 2 from rfl, pk_rem (by omega) (by decide) (by decide)]
      have hcr : (nI (mvr V v)).toNatClampNeg = mvr V v := nI_clamp (by omega)
      have h90 : ix (nI (mvr V v)) 90 = true := ix_nI (by omega) (by decide)
      have key : ∀ (z : Int32) (L' : fg_A), L' = upd L (mvr V v) z → z.toInt = fI L (mvr V v) + (if cl E (mvr V v) = v then 1 else -1) → fI L' = tr_put (cl E) (fI L) (mvr V) v 1 := fun z L' hL' hz => by
        subst hL'
        funext r
        unfold tr_put
        by_cases w : r = mvr V v
        · rw [if_pos w, ← hz, w]
          show (upd L (mvr V v) z (mvr V v)).toInt = _
          rw [pk_us]
        · rw [if_neg w]
          show (upd L (mvr V v) z r).toInt = _
          rw [pk_un w]; rfl
      have cont : ∀ L', fI L' = tr_put (cl E) (fI L) (mvr V) v 1 → ∃ L2, f_M_push_2 B E V (nI s) k (nI (tr_prev (cl B) (cl E) (mvr V) v)) L' = some L2 ∧ fI L2 = tr_pu (cl B) (cl E) s (mvr V) 1 (kk + 1) (fI L) v := fun L' p2 => by
        obtain ⟨L2, c1, c2⟩ := ih k (tr_prev (cl B) (cl E) (mvr V) v) (M + 1) L' g3 (by omega) (by omega) (by omega) (fun r hr => by
          rw [p2]
          unfold tr_put
          have h1 := hLb r hr
          by_cases w : r = mvr V v
          · rw [if_pos w]
            by_cases z : cl E (mvr V v) = v
            · rw [if_pos z]; omega
            · rw [if_neg z]; omega
          · rw [if_neg w]; omega)
        refine ⟨L2, c1, ?_⟩
        rw [c2, p2]
        show _ = if v = s then fI L else _
        rw [if_neg q]
      simp only [e0, ix_nI hv8 (show 28 < 2 ^ 31 by decide), fg_og_tt, hr, hm, h90, hcr]
      have t1 : (1 : Int32).toInt = 1 := by decide
      rcases hV v hv q with ⟨a1, a2⟩ | ⟨a1, a2⟩
      · have hod : ¬ nI (cl V v % 2) = 1 := by
          have : cl V v % 2 = 0 := by omega
          rw [this]; decide
        rw [if_neg hod, hB]
        have hp : cl B (mvr V v) = tr_prev (cl B) (cl E) (mvr V) v := by unfold tr_prev; rw [if_pos a2]
        rw [hp]
        refine cont _ (key _ _ rfl ?_)
        rw [if_pos a2]
        unfold fI at hb ⊢
        rw [ti_add (by omega) (by omega) (by rw [t1]; omega) (by rw [t1]; omega), t1]
      · have hod : nI (cl V v % 2) = 1 := by
          have : cl V v % 2 = 1 := by omega
          rw [this]; decide
        have hne2 : ¬ cl E (mvr V v) = v := fun z => hne (a2.trans z.symm)
        rw [if_pos hod, hE]
        have hp : cl E (mvr V v) = tr_prev (cl B) (cl E) (mvr V) v := by unfold tr_prev; rw [if_neg hne2]
        rw [hp]
        refine cont _ (key _ _ rfl ?_)
        rw [if_neg hne2]
        unfold fI at hb ⊢
        rw [ti_sub (by omega) (by omega) (by rw [t1]; omega) (by rw [t1]; omega), t1]; omega
theorem pf_mpush {B E C O L V : fg_A} {n : Int32} {N s t : Nat} {z : Int} (Hw : wfm B E C O n N) (hs : s < 28) (hst : s ≠ t) (hT : mT B E C O N s L V) (hx : mR V t = true) (hf : fl_flow N (cl B) (cl E) (fI C) (onb O) s t (fI L) z) :
    ∃ L', f_M_push B E L V (nI s) (nI t) = some L' ∧ fl_flow N (cl B) (cl E) (fI C) (onb O) s t (fI L') (z + 1) := by
  obtain ⟨h0, rk, K, h1, h2, h3⟩ := hT
  have hrt : rk t < 28 := by have := (h1.2.1 t hx).2; have := ct_le (p := mR V) 28; omega
  have hLb : ∀ r, r < N → -((9 : Nat) : Int) ≤ fI L r ∧ fI L r ≤ (9 : Nat) := fun r hr => by
    obtain ⟨b1, b2⟩ := hf.1 r hr
    obtain ⟨-, c1, c2⟩ := Hw.ci hr
    by_cases w : onb O r = true
    · rw [if_pos w] at b2; omega
    · rw [if_neg w] at b2; omega
  obtain ⟨L', p1, p2⟩ := pf_mp2 Hw hs h0 h1 h3 28 fu t 9 L hx hrt (by decide) (by omega) hLb
  refine ⟨L', ?_, ?_⟩
  · unfold f_M_push
    rw [fg_ob_s (show f_M_push_2 B E V (nI s) fu (nI t) L = some L' from p1)]
  · rw [p2]
    exact tr_aug h1 (by omega) hst hx hrt (tr_ok1 h1 28 t hx) hf
theorem pf_mf30 {B E C O : fg_A} {n : Int32} {N s t : Nat} (Hw : wfm B E C O n N) (hs : s < 28) (ht : t < 28) (hst : s ≠ t) :
    ∀ (k j : Nat) (L V : fg_A), 810 < j + k → j ≤ 810 → fl_flow N (cl B) (cl E) (fI C) (onb O) s t (fI L) j → mT B E C O N s L V → fl_clo N (cl B) (cl E) (fI C) (onb O) (fI L) (mR V) →
      ∃ j' L' V', f_M_flow_30 n B E C O (nI s) (nI t) k (nI j) L V = some (nI j', L', V') ∧ j' ≤ 810 ∧ fl_flow N (cl B) (cl E) (fI C) (onb O) s t (fI L') j' ∧ mT B E C O N s L' V' ∧ mR V' t = false ∧ fl_clo N (cl B) (cl E) (fI C) (onb O) (fI L') (mR V') := by
  intro k
  induction k with
  | zero => intro j L V hj hk; omega
  | succ k ih =>
    intro j L V hj hk hf hT hc
    obtain ⟨e1, e2⟩ := hT.1 t ht
    rw [f_M_flow_30, fg_og_t (ix_nI ht (by decide)), nI_clamp (by omega), nI_1]
    by_cases h : mR V t = true
    · have hz : (j : Int) < 810 := by
        obtain ⟨-, rk, K, h1, -⟩ := hT
        exact fl_810 Hw hs hst h1 h hf
      have hcl : cl V t ≠ 0 := (mR_t.mp h).2
      rw [if_neg (show ¬ V t ≤ 0 by rw [e1]; exact nI_nle (by omega) (by omega))]
      obtain ⟨L', p1, p2⟩ := pf_mpush Hw hs hst hT h hf
      obtain ⟨V', q1, q2, q3⟩ := pf_mspread (s := s) Hw (fl_on p2.1) hs V
      rw [fg_ob_s p1, fg_ob_s q1]
      exact ih (j + 1) L' V' (by omega) (by omega) (by rw [Int.natCast_add]; exact p2) q2 q3
    · have h2 : mR V t = false := by simpa using h
      have hcl : cl V t = 0 := by
        apply Classical.byContradiction
        intro z
        exact h (mR_t.mpr ⟨ht, z⟩)
      rw [if_pos (show V t ≤ 0 by rw [e1, hcl]; decide)]
      exact ⟨j, L, V, rfl, hk, hf, hT, h2, hc⟩
/-- the reference's flow -/
theorem pf_mflow {B E C O : fg_A} {n : Int32} {N s t : Nat} (Hw : wfm B E C O n N) (hs : s < 28) (ht : t < 28) (hst : s ≠ t) (L V : fg_A) :
    ∃ j L' V', f_M_flow n B E C O L V (nI s) (nI t) = some (nI j, L', V') ∧ j ≤ 810 ∧ fl_flow N (cl B) (cl E) (fI C) (onb O) s t (fI L') j ∧ (∀ v, v < 28 → V' v = nI (cl V' v) ∧ cl V' v ≤ 200) ∧ mR V' s = true ∧ mR V' t = false ∧ fl_clo N (cl B) (cl E) (fI C) (onb O) (fI L') (mR V') ∧ fl_least s N (cl B) (cl E) (fI C) (onb O) (fI L') (mR V') := by
  obtain ⟨L1, a1, a2⟩ := pf_zero (h := f_M_flow_2 n (nI s) (nI t)) Hw.2.1 Hw.1 (fun _ _ _ => rfl) fu 0 L (Nat.zero_le N) (by show N < 0 + 1000; have := Hw.1; omega) (fun x hx => absurd hx (Nat.not_lt_zero x))
  have hf : fl_flow N (cl B) (cl E) (fI C) (onb O) s t (fI L1) 0 := fl_zero (fun r hr => by have := (Hw.ci hr).2.1; omega) (fun r hr => by unfold fI; rw [a2 r hr]; rfl)
  obtain ⟨V1, c1, c2, c3⟩ := pf_mspread (s := s) Hw (fl_on hf.1) hs V
  obtain ⟨j, L', V', d1, d2, d3, d4, d5, d6⟩ := pf_mf30 Hw hs ht hst fu 0 L1 V1 (by decide) (by omega) hf c2 c3
  obtain ⟨k1, rk, K, k2, -⟩ := id d4
  refine ⟨j, L', V', ?_, d2, d3, k1, k2.1, d5, d6, tr_least k2⟩
  unfold f_M_flow
  rw [fg_ob_s (show f_M_flow_2 n (nI s) (nI t) fu 0 L = some L1 from a1), fg_ob_s c1, fg_ob_s (show f_M_flow_30 n B E C O (nI s) (nI t) fu 0 L1 V1 = some (nI j, L', V') from d1)]
