/-! The nodes found from s, each by a rule with room, and a push along them. -/
section TR
variable (N : Nat) (b e : Nat → Nat) (c : Nat → Int) (on : Nat → Bool) (s : Nat)
def tr_prev (vr : Nat → Nat) (v : Nat) : Nat := if e (vr v) = v then b (vr v) else e (vr v)
def tr_room (f : Nat → Int) (vr : Nat → Nat) (v : Nat) : Int := if e (vr v) = v then c (vr v) - f (vr v) else f (vr v)
def tr_put (f : Nat → Int) (vr : Nat → Nat) (v : Nat) (a : Int) : Nat → Int := fun r => if r = vr v then f (vr v) + (if e (vr v) = v then a else -a) else f r
def tr_tree (f : Nat → Int) (R : Nat → Bool) (vr rk : Nat → Nat) (K : Nat) : Prop :=
  R s = true ∧ (∀ v, R v = true → v < 28 ∧ rk v < K) ∧ ∀ v, R v = true → v ≠ s → vr v < N ∧ on (vr v) = true ∧ R (tr_prev b e vr v) = true ∧ rk (tr_prev b e vr v) < rk v ∧ 0 < tr_room e c f vr v ∧ (e (vr v) = v ∨ b (vr v) = v)
def tr_pu (vr : Nat → Nat) (a : Int) : Nat → (Nat → Int) → Nat → (Nat → Int)
  | 0, f, _ => f
  | k + 1, f, v => if v = s then f else tr_pu vr a k (tr_put e f vr v a) (tr_prev b e vr v)
def tr_ok (f : Nat → Int) (vr : Nat → Nat) (a : Int) : Nat → Nat → Prop
  | 0, _ => True
  | k + 1, v => v = s ∨ (a ≤ tr_room e c f vr v ∧ tr_ok f vr a k (tr_prev b e vr v))
variable {N b e c on s}
theorem tr_inj {f : Nat → Int} {R : Nat → Bool} {vr rk : Nat → Nat} {K : Nat} (h : tr_tree N b e c on s f R vr rk K) {u v : Nat} (hu : R u = true) (hus : u ≠ s) (hv : R v = true) (hvs : v ≠ s) (hr : vr u = vr v) : u = v := by
  obtain ⟨-, -, -, r1, -, d1⟩ := h.2.2 u hu hus
  obtain ⟨-, -, -, r2, -, d2⟩ := h.2.2 v hv hvs
  unfold tr_prev at r1 r2
  rw [← hr] at r2 d2
  rcases d1 with d1 | d1 <;> rcases d2 with d2 | d2
  · exact d1.symm.trans d2
  · by_cases q : e (vr u) = v
    · exact d1.symm.trans q
    · rw [if_pos d1, d2] at r1
      rw [if_neg q, d1] at r2
      omega
  · by_cases q : e (vr u) = u
    · exact q.symm.trans d2
    · rw [if_neg q, d2] at r1
      rw [if_pos d2, d1] at r2
      omega
  · exact d1.symm.trans d2
theorem tr_least {f : Nat → Int} {R : Nat → Bool} {vr rk : Nat → Nat} {K : Nat} (h : tr_tree N b e c on s f R vr rk K) : fl_least s N b e c on f R := by
  intro T hT hc
  have key : ∀ n v, rk v < n → R v = true → T v = true := by
    intro n
    induction n with
    | zero => intro v hv; omega
    | succ n ih =>
      intro v hv hR
      by_cases hs : v = s
      · rw [hs]; exact hT
      · obtain ⟨h1, h2, h3, h4, h5, h6⟩ := h.2.2 v hR hs
        have hp := ih _ (by omega) h3
        unfold tr_prev at hp
        unfold tr_room at h5
        by_cases q : e (vr v) = v
        · rw [if_pos q] at hp h5
          have := (hc _ h1).1 h2 hp (by omega)
          rw [q] at this; exact this
        · rw [if_neg q] at hp h5
          have h7 : b (vr v) = v := h6.resolve_left q
          have := (hc _ h1).2 hp h5
          rw [h7] at this; exact this
  intro v hv
  exact key _ v (Nat.lt_succ_self _) hv
theorem tr_push {f0 : Nat → Int} {R : Nat → Bool} {vr rk : Nat → Nat} {K : Nat} {a : Int} (h : tr_tree N b e c on s f0 R vr rk K) (ha : 0 ≤ a) :
    ∀ (k : Nat) (f : Nat → Int) (v : Nat), R v = true → rk v < k → tr_ok b e c s f0 vr a k v → fl_bd N c on f → (∀ u, R u = true → u ≠ s → rk u ≤ rk v → f (vr u) = f0 (vr u)) →
      fl_bd N c on (tr_pu b e s vr a k f v) ∧ ∀ w, fl_net N b e (tr_pu b e s vr a k f v) w = fl_net N b e f w + ((if s = w then a else 0) - (if v = w then a else 0)) := by
  intro k
  induction k with
  | zero => intro f v _ hv; omega
  | succ k ih =>
    intro f v hR hk hok hbd hag
    by_cases hs : v = s
    · have e1 : tr_pu b e s vr a (k + 1) f v = f := by show (if v = s then f else _) = f; rw [if_pos hs]
      rw [e1]
      refine ⟨hbd, fun w => ?_⟩
      rw [hs]; omega
    · have e1 : tr_pu b e s vr a (k + 1) f v = tr_pu b e s vr a k (tr_put e f vr v a) (tr_prev b e vr v) := by show (if v = s then f else _) = _; rw [if_neg hs]
      rw [e1]
      obtain ⟨h1, h2, h3, h4, h5, h6⟩ := h.2.2 v hR hs
      have hfr : f (vr v) = f0 (vr v) := hag v hR hs (Nat.le_refl _)
      obtain ⟨ho1, ho2⟩ := hok.resolve_left hs
      have hb2 : fl_bd N c on (tr_put e f vr v a) := by
        intro r hr
        unfold tr_put
        by_cases q : r = vr v
        · rw [if_pos q]
          subst q
          obtain ⟨b1, b2⟩ := hbd _ hr
          rw [if_pos h2] at b2 ⊢
          unfold tr_room at ho1
          rw [← hfr] at ho1
          by_cases w : e (vr v) = v
          · rw [if_pos w] at ho1 ⊢; omega
          · rw [if_neg w] at ho1 ⊢; omega
        · rw [if_neg q]; exact hbd r hr
      have hag2 : ∀ u, R u = true → u ≠ s → rk u ≤ rk (tr_prev b e vr v) → tr_put e f vr v a (vr u) = f0 (vr u) := by
        intro u hu hus hru
        have hne : vr u ≠ vr v := fun q => by
          have := tr_inj h hu hus hR hs q
          subst this; omega
        show (if vr u = vr v then _ else f (vr u)) = _
        rw [if_neg hne]
        exact hag u hu hus (by omega)
      obtain ⟨i1, i2⟩ := ih (tr_put e f vr v a) (tr_prev b e vr v) h3 (by omega) ho2 hb2 hag2
      refine ⟨i1, fun w => ?_⟩
      rw [i2 w]
      have hn : fl_net N b e (tr_put e f vr v a) w = fl_net N b e f w + ((if b (vr v) = w then (if e (vr v) = v then a else -a) else 0) - (if e (vr v) = w then (if e (vr v) = v then a else -a) else 0)) := fl_net_upd h1 w
      rw [hn]
      unfold tr_prev
      by_cases q : e (vr v) = v
      · simp only [if_pos q]
        rw [q]
        omega
      · have h7 : b (vr v) = v := h6.resolve_left q
        simp only [if_neg q]
        rw [h7]
        by_cases w1 : v = w <;> by_cases w2 : e (vr v) = w <;> simp [w1, w2] <;> omega
theorem tr_aug {f : Nat → Int} {R : Nat → Bool} {vr rk : Nat → Nat} {K k t : Nat} {a z : Int} (h : tr_tree N b e c on s f R vr rk K) (ha : 0 ≤ a) (hst : s ≠ t) (hR : R t = true) (hk : rk t < k) (hok : tr_ok b e c s f vr a k t) (hf : fl_flow N b e c on s t f z) :
    fl_flow N b e c on s t (tr_pu b e s vr a k f t) (z + a) := by
  obtain ⟨h1, h2⟩ := tr_push h ha k f t hR hk hok hf.1 (fun _ _ _ _ => rfl)
  refine ⟨h1, fun v hv => ?_⟩
  rw [h2 v, hf.2 v hv]
  by_cases q1 : v = s
  · have q2 : v ≠ t := fun q => hst (q1.symm.trans q)
    rw [if_pos q1, if_pos q1, if_neg q2, if_neg q2, if_pos q1.symm, if_neg (fun q => q2 q.symm)]; omega
  · by_cases q2 : v = t
    · rw [if_neg q1, if_neg q1, if_pos q2, if_pos q2, if_neg (fun q => q1 q.symm), if_pos q2.symm]; omega
    · rw [if_neg q1, if_neg q1, if_neg q2, if_neg q2, if_neg (fun q => q1 q.symm), if_neg (fun q => q2 q.symm)]; omega
/-- one more node is found -/
theorem tr_add {f : Nat → Int} {R : Nat → Bool} {vr rk : Nat → Nat} {K : Nat} (h : tr_tree N b e c on s f R vr rk K) {v q : Nat} (hv : v < 28) (hR : R v = false) (hq : q < N) (hon : on q = true) (hne : b q ≠ e q)
    (hd : (e q = v ∧ R (b q) = true ∧ f q < c q) ∨ (b q = v ∧ R (e q) = true ∧ 0 < f q)) :
    tr_tree N b e c on s f (fun w => R w || decide (w = v)) (fun w => if w = v then q else vr w) (fun w => if w = v then K else rk w) (K + 1) := by
  obtain ⟨h1, h2, h3⟩ := h
  have hvs : v ≠ s := fun w => by rw [w, h1] at hR; cases hR
  refine ⟨by simp [h1], fun w hw => ?_, fun w hw hws => ?_⟩
  · by_cases e1 : w = v
    · simp [e1]; exact hv
    · have hw' : R w = true := by simpa [e1] using hw
      have := h2 w hw'
      simp [e1]; omega
  · by_cases e1 : w = v
    · subst e1
      have hpr : tr_prev b e (fun x => if x = w then q else vr x) w = if e q = w then b q else e q := by unfold tr_prev; simp
      have hro : tr_room e c f (fun x => if x = w then q else vr x) w = if e q = w then c q - f q else f q := by unfold tr_room; simp
      rw [hpr, hro]
      simp only [if_true]
      rcases hd with ⟨d1, d2, d3⟩ | ⟨d1, d2, d3⟩
      · have hb : b q ≠ w := fun x => hne (x.trans d1.symm)
        rw [if_pos d1, if_pos d1]
        refine ⟨hq, hon, by simp [d2], ?_, by omega, Or.inl d1⟩
        rw [if_neg hb]; exact (h2 _ d2).2
      · have he : e q ≠ w := fun x => hne (d1.trans x.symm)
        simp only [if_neg he]
        exact ⟨hq, hon, by simp [d2], (h2 _ d2).2, d3, Or.inr d1⟩
    · have hw' : R w = true := by simpa [e1] using hw
      obtain ⟨a1, a2, a3, a4, a5, a6⟩ := h3 w hw' hws
      have hpr : tr_prev b e (fun x => if x = v then q else vr x) w = tr_prev b e vr w := by unfold tr_prev; simp [e1]
      have hro : tr_room e c f (fun x => if x = v then q else vr x) w = tr_room e c f vr w := by unfold tr_room; simp [e1]
      have hpv : tr_prev b e vr w ≠ v := fun x => by rw [x, hR] at a3; cases a3
      rw [hpr, hro]
      simp only [if_neg e1, if_neg hpv]
      exact ⟨a1, a2, by simp [a3], a4, a5, a6⟩
theorem tr_start (f : Nat → Int) (vr : Nat → Nat) (hs : s < 28) : tr_tree N b e c on s f (fun w => decide (w = s)) vr (fun _ => 0) 1 := by
  refine ⟨by simp, fun v hv => ⟨?_, Nat.lt_succ_self 0⟩, fun v hv hvs => ?_⟩
  · have : v = s := by simpa using hv
    rw [this]; exact hs
  · have : v = s := by simpa using hv
    exact absurd this hvs
theorem tr_congr {f : Nat → Int} {R R' : Nat → Bool} {vr vr' rk : Nat → Nat} {K : Nat} (h : tr_tree N b e c on s f R vr rk K) (hR : ∀ v, R v = R' v) (hvr : ∀ v, R v = true → v ≠ s → vr v = vr' v) : tr_tree N b e c on s f R' vr' rk K := by
  obtain ⟨h1, h2, h3⟩ := h
  refine ⟨by rw [← hR]; exact h1, fun v hv => h2 v (by rw [hR]; exact hv), fun v hv hvs => ?_⟩
  have hv' : R v = true := by rw [hR]; exact hv
  obtain ⟨a1, a2, a3, a4, a5, a6⟩ := h3 v hv' hvs
  have e1 := hvr v hv' hvs
  have hpr : tr_prev b e vr' v = tr_prev b e vr v := by unfold tr_prev; rw [e1]
  have hro : tr_room e c f vr' v = tr_room e c f vr v := by unfold tr_room; rw [e1]
  rw [hpr, hro, ← e1, ← hR]
  exact ⟨a1, a2, a3, a4, a5, a6⟩
end TR
