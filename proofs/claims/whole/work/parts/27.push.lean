/-! The class's pushes, and the near side. -/
/-- what a found node's rule is, in the class's numbers -/
theorem sp_node {B E C O L V : fg_A} {n : Int32} {N s v : Nat} {x : Int32} {rk : Nat → Nat} {K : Nat} (Hw : wfm B E C O n N) (hT : tr_tree N (cl B) (cl E) (fI C) (onb O) s (fI L) (bt x) (cl V) rk K) (hV : ∀ v, bt x v = true → v ≠ s → V v = nI (cl V v)) (hv : bt x v = true) (hvs : v ≠ s) :
    v < 28 ∧ cl V v < N ∧ V v = nI (cl V v) ∧ (E (cl V v) = nI v ↔ cl E (cl V v) = v) ∧ E (cl V v) = nI (cl E (cl V v)) ∧ B (cl V v) = nI (cl B (cl V v)) := by
  obtain ⟨h1, -⟩ := hT.2.1 v hv
  obtain ⟨h2, -⟩ := hT.2.2 v hv hvs
  obtain ⟨⟨hB, -⟩, ⟨hE, hE8⟩, -⟩ := Hw.2.2 _ h2
  refine ⟨h1, h2, hV v hv hvs, ?_, hE, hB⟩
  rw [hE]
  exact nI_eq (by omega) (by omega)
theorem pf_nodeBefore {B E C O L V : fg_A} {n : Int32} {N s v : Nat} {x : Int32} {rk : Nat → Nat} {K : Nat} (Hw : wfm B E C O n N) (hT : tr_tree N (cl B) (cl E) (fI C) (onb O) s (fI L) (bt x) (cl V) rk K) (hV : ∀ v, bt x v = true → v ≠ s → V v = nI (cl V v)) (hv : bt x v = true) (hvs : v ≠ s) :
    f_G_nodeBefore B E V (nI v) = some (nI (tr_prev (cl B) (cl E) (cl V) v)) := by
  obtain ⟨h1, h2, h3, h4, h5, h6⟩ := sp_node Hw hT hV hv hvs
  have hN := Hw.1
  have e0 : (nI v).toNatClampNeg = v := nI_clamp (by omega)
  have e1 : (nI (cl V v)).toNatClampNeg = cl V v := nI_clamp (by omega)
  have e2 : ix (nI (cl V v)) 90 = true := ix_nI (by omega) (by decide)
  unfold f_G_nodeBefore tr_prev
  rw [fg_og_t (ix_nI h1 (by decide)), e0, h3, fg_og_t e2, e1]
  by_cases q : cl E (cl V v) = v
  · rw [if_pos (h4.mpr q), if_pos q, fg_og_t e2, h6]
  · rw [if_neg (fun z => q (h4.mp z)), if_neg q, fg_og_t e2, h5]
theorem pf_roomInto {B E C O L V : fg_A} {n : Int32} {N s v : Nat} {x : Int32} {rk : Nat → Nat} {K : Nat} (Hw : wfm B E C O n N) (hT : tr_tree N (cl B) (cl E) (fI C) (onb O) s (fI L) (bt x) (cl V) rk K) (hV : ∀ v, bt x v = true → v ≠ s → V v = nI (cl V v)) (hbd : fl_bd N (fI C) (onb O) (fI L)) (hv : bt x v = true) (hvs : v ≠ s) :
    ∃ y, f_G_roomInto E C L V (nI v) = some y ∧ y.toInt = tr_room (cl E) (fI C) (fI L) (cl V) v := by
  obtain ⟨h1, h2, h3, h4, h5, h6⟩ := sp_node Hw hT hV hv hvs
  have hN := Hw.1
  have e0 : (nI v).toNatClampNeg = v := nI_clamp (by omega)
  have e1 : (nI (cl V v)).toNatClampNeg = cl V v := nI_clamp (by omega)
  have e2 : ix (nI (cl V v)) 90 = true := ix_nI (by omega) (by decide)
  obtain ⟨c0, c1, c2⟩ := Hw.ci h2
  obtain ⟨b1, b2⟩ := hbd _ h2
  have b3 : fI L (cl V v) ≤ 9 := by
    by_cases z : onb O (cl V v) = true
    · rw [if_pos z] at b2; omega
    · rw [if_neg z] at b2; omega
  unfold f_G_roomInto tr_room
  rw [fg_og_t (ix_nI h1 (by decide)), e0, h3, fg_og_t e2, e1]
  by_cases q : cl E (cl V v) = v
  · rw [if_pos (h4.mpr q), if_pos q, fg_og_t e2, fg_og_t e2]
    refine ⟨_, rfl, ?_⟩
    unfold fI at c1 c2 b1 b3 ⊢
    exact ti_sub (by omega) (by omega) (by omega) (by omega)
  · rw [if_neg (fun z => q (h4.mp z)), if_neg q, fg_og_t e2]
    exact ⟨_, rfl, rfl⟩
theorem pf_pushInto {B E C O L0 L V : fg_A} {n a : Int32} {N s v : Nat} {x : Int32} {rk : Nat → Nat} {K : Nat} (Hw : wfm B E C O n N) (hT : tr_tree N (cl B) (cl E) (fI C) (onb O) s (fI L0) (bt x) (cl V) rk K) (hV : ∀ v, bt x v = true → v ≠ s → V v = nI (cl V v)) (hv : bt x v = true) (hvs : v ≠ s)
    (ha : 0 ≤ a.toInt ∧ a.toInt ≤ 9) (hLb : -10000 ≤ fI L (cl V v) ∧ fI L (cl V v) ≤ 10000) :
    ∃ L', f_G_pushInto E L V (nI v) a = some L' ∧ fI L' = tr_put (cl E) (fI L) (cl V) v a.toInt := by
  obtain ⟨h1, h2, h3, h4, h5, h6⟩ := sp_node Hw hT hV hv hvs
  have hN := Hw.1
  have e0 : (nI v).toNatClampNeg = v := nI_clamp (by omega)
  have e1 : (nI (cl V v)).toNatClampNeg = cl V v := nI_clamp (by omega)
  have e2 : ix (nI (cl V v)) 90 = true := ix_nI (by omega) (by decide)
  unfold f_G_pushInto
  rw [fg_og_t (ix_nI h1 (by decide)), e0, h3, fg_og_t e2, fg_og_t e2, e1]
  have key : ∀ z : Int32, z.toInt = fI L (cl V v) + (if cl E (cl V v) = v then a.toInt else -a.toInt) → fI (upd L (cl V v) z) = tr_put (cl E) (fI L) (cl V) v a.toInt := fun z hz => by
    funext r
    unfold tr_put
    by_cases w : r = cl V v
    · rw [if_pos w, ← hz, w]
      show (upd L (cl V v) z (cl V v)).toInt = _
      rw [pk_us]
    · rw [if_neg w]
      show (upd L (cl V v) z r).toInt = _
      rw [pk_un w]; rfl
  by_cases q : cl E (cl V v) = v
  · rw [if_pos (h4.mpr q), fg_og_t e2]
    refine ⟨_, rfl, key _ ?_⟩
    rw [if_pos q]
    unfold fI at hLb ⊢
    exact ti_add (by omega) (by omega) (by omega) (by omega)
  · rw [if_neg (fun z => q (h4.mp z)), fg_og_t e2]
    refine ⟨_, rfl, key _ ?_⟩
    rw [if_neg q]
    have hn : (-a).toInt = -a.toInt := ti_neg (by omega) (by omega)
    unfold fI at hLb ⊢
    rw [ti_add (by omega) (by omega) (by rw [hn]; omega) (by rw [hn]; omega), hn]
theorem tr_ok_mono {b e : Nat → Nat} {c f : Nat → Int} {s : Nat} {vr : Nat → Nat} {a a' : Int} (h : a' ≤ a) : ∀ {k v : Nat}, tr_ok b e c s f vr a k v → tr_ok b e c s f vr a' k v
  | 0, _, _ => trivial
  | k + 1, v, hk => by
    rcases hk with hk | ⟨h1, h2⟩
    · exact Or.inl hk
    · exact Or.inr ⟨by omega, tr_ok_mono h h2⟩
theorem pf_pa9 {B E C O L V : fg_A} {n : Int32} {N s t : Nat} {x : Int32} {rk : Nat → Nat} {K : Nat} (Hw : wfm B E C O n N) (hs : s < 28) (hT : tr_tree N (cl B) (cl E) (fI C) (onb O) s (fI L) (bt x) (cl V) rk K) (hV : ∀ v, bt x v = true → v ≠ s → V v = nI (cl V v)) (hbd : fl_bd N (fI C) (onb O) (fI L)) (x2 : Int32) :
    ∀ (k i v : Nat) (a : Int32), bt x v = true → i + rk v < 28 → rk v < k → 1 ≤ a.toInt → a.toInt ≤ 9 →
      ∃ y, f_G_pushAlong_9 B E C L V (nI s) x2 k a (nI v) (nI i) = some y ∧ 1 ≤ y.toInt ∧ y.toInt ≤ a.toInt ∧ ∀ kk, tr_ok (cl B) (cl E) (fI C) s (fI L) (cl V) y.toInt kk v := by
  intro k
  induction k with
  | zero => intro i v a hv hi hk; omega
  | succ k ih =>
    intro i v a hv hi hk ha1 ha9
    rw [f_G_pushAlong_9, if_neg (show ¬ (28 : Int32) ≤ nI i from nI_ge (b := 28) (by omega) (by decide))]
    have hv8 := (hT.2.1 v hv).1
    by_cases q : v = s
    · rw [if_pos (by rw [q])]
      refine ⟨a, rfl, ha1, Int.le_refl _, fun kk => ?_⟩
      cases kk with
      | zero => trivial
      | succ kk => exact Or.inl q
    · rw [if_neg (fun z => q ((nI_eq (by omega) (by omega)).mp z))]
      obtain ⟨g1, g2, g3, g4, g5, g6⟩ := hT.2.2 v hv q
      obtain ⟨y, r1, r2⟩ := pf_roomInto Hw hT hV hbd hv q
      rw [fg_ob_s r1, fg_ob_s (pf_nodeBefore Hw hT hV hv q), nI_1]
      have hmin : ∃ w : Int32, (if y < a then y else a) = w ∧ 1 ≤ w.toInt ∧ w.toInt ≤ a.toInt ∧ w.toInt ≤ y.toInt := by
        by_cases z : y < a
        · have z2 := Int32.lt_iff_toInt_lt.mp z
          exact ⟨y, if_pos z, by omega, by omega, Int.le_refl _⟩
        · have z2 : ¬ y.toInt < a.toInt := fun w => z (Int32.lt_iff_toInt_lt.mpr w)
          exact ⟨a, if_neg z, ha1, Int.le_refl _, by omega⟩
      obtain ⟨w, w1, w2, w3, w4⟩ := hmin
      rw [w1]
      obtain ⟨y', c1, c2, c3, c4⟩ := ih (i + 1) (tr_prev (cl B) (cl E) (cl V) v) w g3 (by omega) (by omega) w2 (by omega)
      refine ⟨y', c1, c2, by omega, fun kk => ?_⟩
      cases kk with
      | zero => trivial
      | succ kk => exact Or.inr ⟨by omega, c4 kk⟩
theorem pf_pa53 {B E C O L0 V : fg_A} {n a : Int32} {N s : Nat} {x : Int32} {rk : Nat → Nat} {K : Nat} (Hw : wfm B E C O n N) (hs : s < 28) (hT : tr_tree N (cl B) (cl E) (fI C) (onb O) s (fI L0) (bt x) (cl V) rk K) (hV : ∀ v, bt x v = true → v ≠ s → V v = nI (cl V v)) (ha : 0 ≤ a.toInt ∧ a.toInt ≤ 9) :
    ∀ (kk k i v M : Nat) (L : fg_A), bt x v = true → rk v < kk → kk ≤ k → i + kk ≤ 28 → M + 9 * kk ≤ 5000 → (∀ r, r < N → -(M : Int) ≤ fI L r ∧ fI L r ≤ M) →
      ∃ L', f_G_pushAlong_53 B E V (nI s) a k (nI v) (nI i) L = some L' ∧ fI L' = tr_pu (cl B) (cl E) s (cl V) a.toInt kk (fI L) v := by
  intro kk
  induction kk with
  | zero => intro k i v M L hv hk; omega
  | succ kk ih =>
    intro k i v M L hv hk hkk hi hM hLb
    obtain ⟨k, rfl⟩ : ∃ j, k = j + 1 := ⟨k - 1, by omega⟩
    rw [f_G_pushAlong_53, if_neg (show ¬ (28 : Int32) ≤ nI i from nI_ge (b := 28) (by omega) (by decide))]
    have hv8 := (hT.2.1 v hv).1
    by_cases q : v = s
    · rw [if_pos (by rw [q])]
      refine ⟨L, rfl, ?_⟩
      show fI L = if v = s then fI L else _
      rw [if_pos q]
    · rw [if_neg (fun z => q ((nI_eq (by omega) (by omega)).mp z))]
      obtain ⟨g1, g2, g3, g4, g5, g6⟩ := hT.2.2 v hv q
      have hb := hLb _ g1
      obtain ⟨L', p1, p2⟩ := pf_pushInto (L := L) Hw hT hV hv q ha (by omega)
      rw [fg_ob_s p1, fg_ob_s (pf_nodeBefore Hw hT hV hv q), nI_1]
      obtain ⟨L2, c1, c2⟩ := ih k (i + 1) (tr_prev (cl B) (cl E) (cl V) v) (M + 9) L' g3 (by omega) (by omega) (by omega) (by omega) (fun r hr => by
        rw [p2]
        unfold tr_put
        have h1 := hLb r hr
        by_cases w : r = cl V v
        · rw [if_pos w]
          by_cases z : cl E (cl V v) = v
          · rw [if_pos z]; omega
          · rw [if_neg z]; omega
        · rw [if_neg w]; omega)
      refine ⟨L2, c1, ?_⟩
      rw [c2, p2]
      show _ = if v = s then fI L else _
      rw [if_neg q]
theorem fl_on {N : Nat} {c f : Nat → Int} {on : Nat → Bool} (h : fl_bd N c on f) : ∀ r, r < N → 0 < f r → on r = true := fun r hr hp => by
  have := (h r hr).2
  cases ho : on r with
  | true => rfl
  | false => rw [ho] at this; simp at this; omega
/-- one push: the flow's value grows by one or more -/
theorem pf_push {B E C O L V : fg_A} {n : Int32} {N s t : Nat} {x : Int32} {z : Int} (Hw : wfm B E C O n N) (hs : s < 28) (ht : t < 28) (hst : s ≠ t) (hT : sp_T B E C O N s L V x) (hx : bt x t = true) (hf : fl_flow N (cl B) (cl E) (fI C) (onb O) s t (fI L) z) :
    ∃ L' y, f_G_pushAlong B E C L V (nI s) (nI t) = some L' ∧ 1 ≤ y ∧ fl_flow N (cl B) (cl E) (fI C) (onb O) s t (fI L') (z + y) := by
  obtain ⟨h0, rk, K, h1, h2, h3⟩ := hT
  have hrt : rk t < 28 := by have := (h1.2.1 t hx).2; have := ct_le (p := bt x) 28; omega
  obtain ⟨y, a1, a2, a3, a4⟩ := pf_pa9 (t := t) Hw hs h1 h3 hf.1 (nI t) fu 0 t 9 hx (by omega) (by show rk t < 1000; omega) (by decide) (by decide)
  have h9 : (9 : Int32).toInt = 9 := by decide
  have hLb : ∀ r, r < N → -((9 : Nat) : Int) ≤ fI L r ∧ fI L r ≤ (9 : Nat) := fun r hr => by
    obtain ⟨b1, b2⟩ := hf.1 r hr
    obtain ⟨-, c1, c2⟩ := Hw.ci hr
    by_cases w : onb O r = true
    · rw [if_pos w] at b2; omega
    · rw [if_neg w] at b2; omega
  obtain ⟨L', p1, p2⟩ := pf_pa53 (a := y) Hw hs h1 h3 ⟨by omega, by omega⟩ 28 fu 0 t 9 L hx hrt (by decide) (by omega) (by omega) hLb
  refine ⟨L', y.toInt, ?_, a2, ?_⟩
  · unfold f_G_pushAlong
    rw [fg_ob_s (show f_G_pushAlong_9 B E C L V (nI s) (nI t) fu 9 (nI t) 0 = some y from a1), fg_ob_s (show f_G_pushAlong_53 B E V (nI s) y fu (nI t) 0 L = some L' from p1)]
  · rw [p2]
    exact tr_aug h1 (by omega) hst hx hrt (a4 28) hf
theorem tr_ok1 {N : Nat} {b e : Nat → Nat} {c f : Nat → Int} {on : Nat → Bool} {s : Nat} {R : Nat → Bool} {vr rk : Nat → Nat} {K : Nat} (h : tr_tree N b e c on s f R vr rk K) : ∀ (k v : Nat), R v = true → tr_ok b e c s f vr 1 k v
  | 0, _, _ => trivial
  | k + 1, v, hv => by
    by_cases q : v = s
    · exact Or.inl q
    · obtain ⟨-, -, h3, -, h5, -⟩ := h.2.2 v hv q
      exact Or.inr ⟨by omega, tr_ok1 h k _ h3⟩
theorem sm_bound {g : Nat → Int} {m : Int} : ∀ {n : Nat}, (∀ i, i < n → g i ≤ m) → sm g n ≤ n * m
  | 0, _ => by show (0 : Int) ≤ _; omega
  | n + 1, H => by
    show sm g n + g n ≤ _
    have h1 := sm_bound (fun i hi => H i (Nat.lt_succ_of_lt hi))
    have h2 := H n (Nat.lt_succ_self n)
    rw [Int.natCast_add, Int.add_mul]
    omega
/-- where a way is left for more, the value is below 810 -/
theorem fl_810 {B E C O : fg_A} {n : Int32} {N s t : Nat} {f : Nat → Int} {R : Nat → Bool} {vr rk : Nat → Nat} {K : Nat} {z : Int} (Hw : wfm B E C O n N) (hs : s < 28) (hst : s ≠ t) (hT : tr_tree N (cl B) (cl E) (fI C) (onb O) s f R vr rk K) (hx : R t = true) (hf : fl_flow N (cl B) (cl E) (fI C) (onb O) s t f z) : z < 810 := by
  have h1 := tr_aug hT (by omega) hst hx (Nat.lt_succ_self (rk t)) (tr_ok1 hT _ t hx) hf
  have h2 := fl_le (S := fun v => decide (v = s)) Hw.b28 Hw.e28 hs h1 (by simp) (by simpa using fun q => hst q.symm)
  have h3 : fl_cap N (cl B) (cl E) (fI C) (onb O) (fun v => decide (v = s)) ≤ N * 9 := sm_bound fun r hr => by
    obtain ⟨-, c1, c2⟩ := Hw.ci hr
    by_cases w : onb O r = true ∧ decide (cl B r = s) = true ∧ decide (cl E r = s) = false
    · rw [if_pos w]; omega
    · rw [if_neg w]; omega
  have h4 := Hw.1
  omega
theorem pf_ns33 {B E C O : fg_A} {n : Int32} {N s t : Nat} (Hw : wfm B E C O n N) (hs : s < 28) (ht : t < 28) (hst : s ≠ t) :
    ∀ (k j : Nat) (x : Int32) (L V : fg_A) (z : Int), j ≤ 810 → 810 < j + k → (j : Int) ≤ z → fl_flow N (cl B) (cl E) (fI C) (onb O) s t (fI L) z → sp_T B E C O N s L V x → (bt x t = true ∨ fl_clo N (cl B) (cl E) (fI C) (onb O) (fI L) (bt x)) →
      ∃ y L' V' z', f_G_nearSide_33 B E C O n (nI s) (nI t) k x (nI j) L V = some (y, L', V') ∧ fl_flow N (cl B) (cl E) (fI C) (onb O) s t (fI L') z' ∧ sp_T B E C O N s L' V' y ∧ bt y t = false ∧ fl_clo N (cl B) (cl E) (fI C) (onb O) (fI L') (bt y) := by
  intro k
  induction k with
  | zero => intro j x L V z hj hk; omega
  | succ k ih =>
    intro j x L V z hj hk hjz hf hT hc
    rw [f_G_nearSide_33]
    by_cases h : bt x t = true
    · have hz : z < 810 := by
        obtain ⟨-, rk, K, h1, -⟩ := hT
        exact fl_810 Hw hs hst h1 h hf
      rw [if_neg (show ¬ (810 : Int32) ≤ nI j from nI_ge (b := 810) (by omega) (by decide)), fg_ob_s (pf_has (by omega)), if_pos h, if_neg (by decide)]
      obtain ⟨L', y, p1, p2, p3⟩ := pf_push Hw hs ht hst hT h hf
      obtain ⟨x', V', q1, q2, q3⟩ := pf_spread (s := s) Hw (fl_on p3.1) hs ht V
      rw [fg_ob_s p1, fg_ob_s q1, nI_1]
      dsimp only
      exact ih (j + 1) x' L' V' (z + y) (by omega) (by omega) (by omega) p3 q2 q3
    · have h2 : bt x t = false := by simpa using h
      have hcl := hc.resolve_left h
      by_cases q : (810 : Int32) ≤ nI j
      · rw [if_pos q]; exact ⟨x, L, V, z, rfl, hf, hT, h2, hcl⟩
      · rw [if_neg q, fg_ob_s (pf_has (by omega)), if_neg h, if_pos rfl]
        exact ⟨x, L, V, z, rfl, hf, hT, h2, hcl⟩
theorem pf_zero {h : Nat → Int32 → fg_A → Option fg_A} {n : Int32} {N : Nat} (hn : n = nI N) (hN : N ≤ 90) (h0 : ∀ k x L, h (k + 1) x L = if n ≤ x then some L else fg_og (ix x 90) (h k (x + 1) (upd L x.toNatClampNeg 0))) :
    ∀ (k i : Nat) (L : fg_A), i ≤ N → N < i + k → (∀ x, x < i → L x = 0) → ∃ K, h k (nI i) L = some K ∧ ∀ x, x < N → K x = 0 := by
  intro k
  induction k with
  | zero => intro i L hi hk; omega
  | succ k ih =>
    intro i L hi hk hL
    rw [h0]
    rcases Nat.lt_or_ge i N with q | q
    · rw [if_neg (show ¬ n ≤ nI i by rw [hn]; exact nI_ge q (by omega)), fg_og_t (ix_nI (by omega) (by decide)), nI_1, nI_clamp (by omega)]
      exact ih (i + 1) _ (by omega) (by omega) (fun x hx => by
        by_cases w : x = i
        · rw [w]; exact pk_us
        · rw [pk_un w]; exact hL x (by omega))
    · rw [if_pos (show n ≤ nI i by rw [hn]; exact nI_le q (by omega))]
      exact ⟨L, rfl, fun x hx => hL x (by omega)⟩
theorem fl_zero {N s t : Nat} {b e : Nat → Nat} {c f : Nat → Int} {on : Nat → Bool} (hc : ∀ r, r < N → 0 ≤ c r) (hf : ∀ r, r < N → f r = 0) : fl_flow N b e c on s t f 0 := by
  refine ⟨fun r hr => ?_, fun v _ => ?_⟩
  · rw [hf r hr]
    have := hc r hr
    by_cases w : on r = true
    · rw [if_pos w]; omega
    · rw [if_neg w]; omega
  · have h1 : fl_net N b e f v = 0 := sm_zero fun r hr => by rw [hf r hr]; simp
    rw [h1]; simp
/-- the class's near side: the least set of a greatest flow -/
theorem pf_near {B E C O : fg_A} {n : Int32} {N s t : Nat} (Hw : wfm B E C O n N) (hs : s < 28) (ht : t < 28) (hst : s ≠ t) (L V : fg_A) :
    ∃ y L' V' f z, f_G_nearSide B E C O n L V (nI s) (nI t) = some (y, L', V') ∧ fl_flow N (cl B) (cl E) (fI C) (onb O) s t f z ∧ mk28 y ∧ bt y s = true ∧ bt y t = false ∧ fl_clo N (cl B) (cl E) (fI C) (onb O) f (bt y) ∧ fl_least s N (cl B) (cl E) (fI C) (onb O) f (bt y) := by
  obtain ⟨L1, a1, a2⟩ := pf_zero (h := f_G_nearSide_2 n (nI s) (nI t)) Hw.2.1 Hw.1 (fun _ _ _ => rfl) fu 0 L (Nat.zero_le N) (by show N < 0 + 1000; have := Hw.1; omega) (fun x hx => absurd hx (Nat.not_lt_zero x))
  have hf : fl_flow N (cl B) (cl E) (fI C) (onb O) s t (fI L1) 0 := fl_zero (fun r hr => by have := (Hw.ci hr).2.1; omega) (fun r hr => by unfold fI; rw [a2 r hr]; rfl)
  obtain ⟨x, V1, c1, c2, c3⟩ := pf_spread (s := s) Hw (fl_on hf.1) hs ht V
  obtain ⟨y, L', V', z', d1, d2, d3, d4, d5⟩ := pf_ns33 Hw hs ht hst fu 0 x L1 V1 0 (by omega) (by decide) (by omega) hf c2 c3
  refine ⟨y, L', V', fI L', z', ?_, d2, d3.1, ?_, d4, d5, ?_⟩
  · unfold f_G_nearSide
    rw [fg_ob_s (show f_G_nearSide_2 n (nI s) (nI t) fu 0 L = some L1 from a1), fg_ob_s c1]
    dsimp only
    rw [fg_ob_s (show f_G_nearSide_33 B E C O n (nI s) (nI t) fu x 0 L1 V1 = some (y, L', V') from d1)]
  · obtain ⟨-, rk, K, h1, -⟩ := d3
    exact h1.1
  · obtain ⟨-, rk, K, h1, -⟩ := d3
    exact tr_least h1
