/-! Sums, flows and cuts over a graph of N rules and 28 nodes: no machine here. -/
def sm (g : Nat → Int) : Nat → Int
  | 0 => 0
  | n + 1 => sm g n + g n
theorem sm_congr {g h : Nat → Int} : ∀ {n : Nat}, (∀ i, i < n → g i = h i) → sm g n = sm h n
  | 0, _ => rfl
  | n + 1, H => by
    show sm g n + g n = sm h n + h n
    rw [sm_congr (fun i hi => H i (Nat.lt_succ_of_lt hi)), H n (Nat.lt_succ_self n)]
theorem sm_le {g h : Nat → Int} : ∀ {n : Nat}, (∀ i, i < n → g i ≤ h i) → sm g n ≤ sm h n
  | 0, _ => Int.le_refl _
  | n + 1, H => by
    show sm g n + g n ≤ sm h n + h n
    have h1 := sm_le (fun i hi => H i (Nat.lt_succ_of_lt hi))
    have h2 := H n (Nat.lt_succ_self n)
    omega
theorem sm_add {g h : Nat → Int} : ∀ {n : Nat}, sm (fun i => g i + h i) n = sm g n + sm h n
  | 0 => rfl
  | n + 1 => by
    show sm (fun i => g i + h i) n + (g n + h n) = (sm g n + g n) + (sm h n + h n)
    rw [sm_add]; omega
theorem sm_sub {g h : Nat → Int} : ∀ {n : Nat}, sm (fun i => g i - h i) n = sm g n - sm h n
  | 0 => rfl
  | n + 1 => by
    show sm (fun i => g i - h i) n + (g n - h n) = (sm g n + g n) - (sm h n + h n)
    rw [sm_sub]; omega
theorem sm_zero {g : Nat → Int} : ∀ {n : Nat}, (∀ i, i < n → g i = 0) → sm g n = 0
  | 0, _ => rfl
  | n + 1, H => by
    show sm g n + g n = 0
    rw [sm_zero (fun i hi => H i (Nat.lt_succ_of_lt hi)), H n (Nat.lt_succ_self n)]; rfl
theorem sm_one {x : Int} {j : Nat} : ∀ {n : Nat}, j < n → sm (fun i => if i = j then x else 0) n = x
  | 0, h => absurd h (Nat.not_lt_zero j)
  | n + 1, h => by
    show sm (fun i => if i = j then x else 0) n + (if n = j then x else 0) = x
    rcases Nat.lt_or_ge j n with q | q
    · rw [sm_one q, if_neg (by omega)]; omega
    · have e : n = j := by omega
      rw [if_pos e, sm_zero (fun i hi => if_neg (by omega))]; omega
theorem sm_eq_of_le {g h : Nat → Int} : ∀ {n : Nat}, (∀ i, i < n → g i ≤ h i) → sm g n = sm h n → ∀ i, i < n → g i = h i
  | 0, _, _, i, hi => absurd hi (Nat.not_lt_zero i)
  | n + 1, H, E, i, hi => by
    have E : sm g n + g n = sm h n + h n := E
    have h1 := sm_le (fun i hi => H i (Nat.lt_succ_of_lt hi))
    have h2 := H n (Nat.lt_succ_self n)
    rcases Nat.lt_or_ge i n with q | q
    · exact sm_eq_of_le (fun i hi => H i (Nat.lt_succ_of_lt hi)) (by omega) i q
    · have e : i = n := by omega
      subst e; omega
/-- how many i below n have p -/
def ct (p : Nat → Bool) : Nat → Nat
  | 0 => 0
  | n + 1 => ct p n + (if p n = true then 1 else 0)
theorem ct_le {p : Nat → Bool} : ∀ n : Nat, ct p n ≤ n
  | 0 => Nat.le_refl 0
  | n + 1 => by
    show ct p n + (if p n = true then 1 else 0) ≤ n + 1
    have := ct_le (p := p) n
    split <;> omega
theorem ct_mono {p q : Nat → Bool} : ∀ {n : Nat}, (∀ i, i < n → p i = true → q i = true) → ct p n ≤ ct q n
  | 0, _ => Nat.le_refl 0
  | n + 1, H => by
    show ct p n + (if p n = true then 1 else 0) ≤ ct q n + (if q n = true then 1 else 0)
    have h1 := ct_mono (fun i hi => H i (Nat.lt_succ_of_lt hi))
    have h2 := H n (Nat.lt_succ_self n)
    by_cases hp : p n = true
    · rw [if_pos hp, if_pos (h2 hp)]; omega
    · rw [if_neg hp]; omega
theorem ct_lt {p q : Nat → Bool} {j : Nat} : ∀ {n : Nat}, (∀ i, i < n → p i = true → q i = true) → j < n → p j = false → q j = true → ct p n < ct q n
  | 0, _, h, _, _ => absurd h (Nat.not_lt_zero j)
  | n + 1, H, hj, hp, hq => by
    show ct p n + (if p n = true then 1 else 0) < ct q n + (if q n = true then 1 else 0)
    rcases Nat.lt_or_ge j n with r | r
    · have h1 := ct_lt (fun i hi => H i (Nat.lt_succ_of_lt hi)) r hp hq
      have h2 := H n (Nat.lt_succ_self n)
      by_cases hpn : p n = true
      · rw [if_pos hpn, if_pos (h2 hpn)]; omega
      · rw [if_neg hpn]; omega
    · have e : j = n := by omega
      subst e
      have h1 := ct_mono (fun i hi => H i (Nat.lt_succ_of_lt hi))
      rw [if_neg (by rw [hp]; decide), if_pos hq]; omega
theorem ct_full {p : Nat → Bool} {n : Nat} (h : n ≤ ct p n) {i : Nat} (hi : i < n) : p i = true := by
  cases hp : p i with
  | true => rfl
  | false =>
    have h1 := ct_lt (p := p) (q := fun _ => true) (fun _ _ _ => rfl) hi hp rfl
    have h2 := ct_le (p := fun _ => true) n
    omega
theorem ct_congr {p q : Nat → Bool} {n : Nat} (h : ∀ i, i < n → p i = q i) : ct p n = ct q n :=
  Nat.le_antisymm (ct_mono fun i hi hp => by rw [← h i hi]; exact hp) (ct_mono fun i hi hp => by rw [h i hi]; exact hp)
section FL
variable (N : Nat) (b e : Nat → Nat) (c : Nat → Int) (on : Nat → Bool)
/-- what leaves v less what comes to it -/
def fl_net (f : Nat → Int) (v : Nat) : Int := sm (fun r => (if b r = v then f r else 0) - (if e r = v then f r else 0)) N
def fl_bd (f : Nat → Int) : Prop := ∀ r, r < N → 0 ≤ f r ∧ f r ≤ (if on r = true then c r else 0)
def fl_flow (s t : Nat) (f : Nat → Int) (z : Int) : Prop := fl_bd N c on f ∧ ∀ v, v < 28 → fl_net N b e f v = (if v = s then z else 0) - (if v = t then z else 0)
def fl_cap (S : Nat → Bool) : Int := sm (fun r => if on r = true ∧ S (b r) = true ∧ S (e r) = false then c r else 0) N
/-- nothing goes on out of S -/
def fl_clo (f : Nat → Int) (S : Nat → Bool) : Prop := ∀ r, r < N → (on r = true → S (b r) = true → f r < c r → S (e r) = true) ∧ (S (e r) = true → 0 < f r → S (b r) = true)
theorem fl_ends {S : Nat → Bool} {x : Int} {u : Nat} (hu : u < 28) : sm (fun v => if S v = true then (if u = v then x else 0) else 0) 28 = if S u = true then x else 0 := by
  have h1 : sm (fun v => if S v = true then (if u = v then x else 0) else 0) 28 = sm (fun v => if v = u then (if S u = true then x else 0) else 0) 28 := sm_congr fun v _ => by
    by_cases hv : v = u
    · subst hv; simp
    · rw [if_neg hv, if_neg (fun q : u = v => hv q.symm)]; simp
  rw [h1, sm_one hu]
theorem fl_swap {f : Nat → Int} {S : Nat → Bool} (hb : ∀ r, r < N → b r < 28) (he : ∀ r, r < N → e r < 28) :
    sm (fun v => if S v = true then fl_net N b e f v else 0) 28 = sm (fun r => (if S (b r) = true then f r else 0) - (if S (e r) = true then f r else 0)) N := by
  induction N with
  | zero =>
    show sm (fun v => if S v = true then (0 : Int) else 0) 28 = 0
    exact sm_zero fun v _ => by simp
  | succ n ih =>
    have h1 : sm (fun v => if S v = true then fl_net (n + 1) b e f v else 0) 28 = sm (fun v => (if S v = true then fl_net n b e f v else 0) + ((if S v = true then (if b n = v then f n else 0) else 0) - (if S v = true then (if e n = v then f n else 0) else 0))) 28 := sm_congr fun v _ => by
      have e1 : fl_net (n + 1) b e f v = fl_net n b e f v + ((if b n = v then f n else 0) - (if e n = v then f n else 0)) := rfl
      rw [e1]
      by_cases hS : S v = true
      · rw [if_pos hS, if_pos hS, if_pos hS, if_pos hS]
      · rw [if_neg hS, if_neg hS, if_neg hS, if_neg hS]; rfl
    have h2 : sm (fun v => (if S v = true then (if b n = v then f n else 0) else 0) - (if S v = true then (if e n = v then f n else 0) else 0)) 28 = (if S (b n) = true then f n else 0) - (if S (e n) = true then f n else 0) := by
      rw [sm_sub, fl_ends (hb n (Nat.lt_succ_self n)), fl_ends (he n (Nat.lt_succ_self n))]
    rw [h1, sm_add, ih (fun r hr => hb r (Nat.lt_succ_of_lt hr)) (fun r hr => he r (Nat.lt_succ_of_lt hr)), h2]
    rfl
variable {N b e c on}
theorem fl_value {s t : Nat} {f : Nat → Int} {z : Int} {S : Nat → Bool} (hb : ∀ r, r < N → b r < 28) (he : ∀ r, r < N → e r < 28) (hs : s < 28) (hf : fl_flow N b e c on s t f z) (h1 : S s = true) (h2 : S t = false) :
    z = sm (fun r => (if S (b r) = true then f r else 0) - (if S (e r) = true then f r else 0)) N := by
  rw [← fl_swap N b e hb he]
  have h3 : sm (fun v => if S v = true then fl_net N b e f v else 0) 28 = sm (fun v => if v = s then z else 0) 28 := sm_congr fun v hv => by
    rw [hf.2 v hv]
    by_cases a : v = s
    · subst a
      have : v ≠ t := fun q => by rw [q, h2] at h1; cases h1
      rw [if_pos h1, if_pos rfl, if_neg this]; omega
    · rw [if_neg a]
      by_cases q : v = t
      · subst q; rw [h2]; rfl
      · rw [if_neg q]; simp
  rw [h3, sm_one hs]
theorem fl_term {f : Nat → Int} {S : Nat → Bool} (hbd : fl_bd N c on f) {r : Nat} (hr : r < N) :
    (if S (b r) = true then f r else 0) - (if S (e r) = true then f r else 0) ≤ (if on r = true ∧ S (b r) = true ∧ S (e r) = false then c r else 0) := by
  obtain ⟨h0, h1⟩ := hbd r hr
  cases hB : S (b r) <;> cases hE : S (e r) <;> cases hO : on r <;> simp [hO] at h1 ⊢ <;> omega
theorem fl_le {s t : Nat} {f : Nat → Int} {z : Int} {S : Nat → Bool} (hb : ∀ r, r < N → b r < 28) (he : ∀ r, r < N → e r < 28) (hs : s < 28) (hf : fl_flow N b e c on s t f z) (h1 : S s = true) (h2 : S t = false) : z ≤ fl_cap N b e c on S := by
  rw [fl_value hb he hs hf h1 h2]
  exact sm_le fun r hr => fl_term hf.1 hr
theorem fl_eq {s t : Nat} {f : Nat → Int} {z : Int} {S : Nat → Bool} (hb : ∀ r, r < N → b r < 28) (he : ∀ r, r < N → e r < 28) (hs : s < 28) (hf : fl_flow N b e c on s t f z) (h1 : S s = true) (h2 : S t = false) (hc : fl_clo N b e c on f S) : z = fl_cap N b e c on S := by
  rw [fl_value hb he hs hf h1 h2]
  refine sm_congr fun r hr => ?_
  obtain ⟨q0, q1⟩ := hf.1 r hr
  obtain ⟨c1, c2⟩ := hc r hr
  cases hB : S (b r) <;> cases hE : S (e r) <;> cases hO : on r <;> simp [hB, hE, hO] at q1 c1 c2 ⊢ <;> omega
theorem fl_clo_of {s t : Nat} {f : Nat → Int} {z : Int} {S : Nat → Bool} (hb : ∀ r, r < N → b r < 28) (he : ∀ r, r < N → e r < 28) (hs : s < 28) (hf : fl_flow N b e c on s t f z) (h1 : S s = true) (h2 : S t = false) (hz : z = fl_cap N b e c on S) : fl_clo N b e c on f S := by
  rw [fl_value hb he hs hf h1 h2] at hz
  have hq := sm_eq_of_le (fun r hr => fl_term hf.1 hr) hz
  intro r hr
  have h := hq r hr
  obtain ⟨q0, q1⟩ := hf.1 r hr
  cases hB : S (b r) <;> cases hE : S (e r) <;> cases hO : on r <;> simp [hB, hE, hO] at q1 h ⊢ <;> omega
/-- S is what s comes to, and no more -/
def fl_least (s : Nat) (N : Nat) (b e : Nat → Nat) (c : Nat → Int) (on : Nat → Bool) (f : Nat → Int) (S : Nat → Bool) : Prop := ∀ T : Nat → Bool, T s = true → fl_clo N b e c on f T → ∀ v, S v = true → T v = true
theorem fl_unique {s t : Nat} {f g : Nat → Int} {z y : Int} {S T : Nat → Bool} (hb : ∀ r, r < N → b r < 28) (he : ∀ r, r < N → e r < 28) (hs : s < 28) (hf : fl_flow N b e c on s t f z) (hg : fl_flow N b e c on s t g y)
    (s1 : S s = true) (s2 : S t = false) (s3 : fl_clo N b e c on f S) (s4 : fl_least s N b e c on f S) (t1 : T s = true) (t2 : T t = false) (t3 : fl_clo N b e c on g T) (t4 : fl_least s N b e c on g T) : z = y ∧ ∀ v, S v = T v := by
  have a1 := fl_eq hb he hs hf s1 s2 s3
  have a2 := fl_eq hb he hs hg t1 t2 t3
  have a3 := fl_le hb he hs hf t1 t2
  have a4 := fl_le hb he hs hg s1 s2
  refine ⟨by omega, fun v => ?_⟩
  have h1 := s4 T t1 (fl_clo_of hb he hs hf t1 t2 (by omega)) v
  have h2 := t4 S s1 (fl_clo_of hb he hs hg s1 s2 (by omega)) v
  cases hS : S v <;> cases hT : T v
  · rfl
  · rw [h2 hT] at hS; cases hS
  · rw [h1 hS] at hT; cases hT
  · rfl
/-- one rule's flow changed: what that does to each node -/
theorem fl_net_upd {f : Nat → Int} {q : Nat} {x : Int} (hq : q < N) (v : Nat) :
    fl_net N b e (fun r => if r = q then f q + x else f r) v = fl_net N b e f v + ((if b q = v then x else 0) - (if e q = v then x else 0)) := by
  have h : fl_net N b e (fun r => if r = q then f q + x else f r) v = sm (fun r => ((if b r = v then f r else 0) - (if e r = v then f r else 0)) + (if r = q then ((if b q = v then x else 0) - (if e q = v then x else 0)) else 0)) N := sm_congr fun r _ => by
    by_cases hr : r = q
    · subst hr
      simp only [if_true]
      by_cases h1 : b r = v <;> by_cases h2 : e r = v <;> simp [h1, h2] <;> omega
    · simp [hr]
  rw [h, sm_add, sm_one hq]; rfl
end FL
