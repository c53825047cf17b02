def fg_Qv0 : Array Value → State → Outcome → State → Prop := fun _ st o t => o = .returned none ∧ t.heap = st.heap
section FGC
variable {p : Program} {l : Launch} {e : Env} {R : Room} {s : State} {m : MethodId} {args : Array Value} {below : List Frame} {meth : Method} {c : Code} {H : Heap} {locs : List Loc} {cells slots : Nat} {Q : State → Prop} {rest : List Value} {g : JFrame} {a : Array Value}
theorem fg_callv0 (hr : CallRun p l e R s m args below meth c H locs cells slots 0 0 g rest (fg_Qv0 a) (fun _ => False)) (kk : W p l e R s m args below meth c H locs cells slots Q { g with pc := g.pc + 3, stack := rest }) : W p l e R s m args below meth c H locs cells slots Q g := by
  intro T hT X
  obtain ⟨v, st₀, t, T', L, h0, X', hL, e1, ⟨hv, hh⟩, st⟩ := hr T hT X
  cases hv
  obtain ⟨t2, a1, b1⟩ := kk T' (by rw [e1, hh, h0]) (Stand.forget X' (fun q h => (hL q h).elim))
  exact ⟨t2, st t2 a1, b1⟩
theorem fg_v0 {pc : Nat} {ls : Array Slot} {st0 : List Value} (hr : CallRun p l e R s m args below meth c H locs cells slots 0 0 (F0 m pc ls st0) rest (fg_Qv0 a) (fun _ => False)) (kk : W p l e R s m args below meth c H locs cells slots Q (F0 m (pc + 3) ls rest)) : W p l e R s m args below meth c H locs cells slots Q (F0 m pc ls st0) := fg_callv0 hr kk
theorem fg_r0 {r : Int32} {pc : Nat} {ls : Array Slot} {st0 : List Value} (hr : CallRun p l e R s m args below meth c H locs cells slots 0 0 (F0 m pc ls st0) rest (QcRead r a) (fun _ => False)) (kk : W p l e R s m args below meth c H locs cells slots Q (F0 m (pc + 3) ls (.int r :: rest))) : W p l e R s m args below meth c H locs cells slots Q (F0 m pc ls st0) := W.callR hr kk
end FGC
abbrev gT (cI cZ : ClassId) : List (ClassId × FieldType) := [(cI, .int), (cZ, .boolean)]
abbrev gW (cI cZ : ClassId) (ad : Nat → Nat) (B : fg_A) (E : fg_A) (C : fg_A) (O : fg_A) (n : Int32) (F : fg_A) (L : fg_A) (V : fg_A) : va_W := [(ad 0, .inr (0, [.ref (ad 1), .ref (ad 2), .ref (ad 3), .ref (ad 4), .int n, .ref (ad 5), .ref (ad 6), .ref (ad 7)])), (ad 1, .inl (cI, 90, .inl B)), (ad 2, .inl (cI, 90, .inl E)), (ad 3, .inl (cI, 90, .inl C)), (ad 4, .inl (cZ, 90, .inl O)), (ad 5, .inl (cI, 28, .inl F)), (ad 6, .inl (cI, 90, .inl L)), (ad 7, .inl (cI, 28, .inl V))]
def gW_Pc (dC : Nat → ClassId) (dI : Nat → Nat → Nat) (cI cZ : ClassId) (ad : Nat → Nat) (sz : Nat) (B : fg_A) (E : fg_A) (C : fg_A) (O : fg_A) (n : Int32) (F : fg_A) (L : fg_A) (V : fg_A) (av : List Value) : Array Value → State → Prop := va_Pc av (fun U => U.heap.size = sz ∧ va_P (dC, dI) classes (gW cI cZ ad B E C O n F L V) U.heap ∧ va_K (dC, dI) classes (gT cI cZ) U ∧ va_D (fun _ => True) (gW cI cZ ad B E C O n F L V))
def gW_B (dC : Nat → ClassId) (dI : Nat → Nat → Nat) (cI cZ : ClassId) (ad : Nat → Nat) (A : Nat → Prop) (B : fg_A) (E : fg_A) (C : fg_A) (O : fg_A) (n : Int32) (F : fg_A) (L : fg_A) (V : fg_A) : Unit → State → Prop := fun _ T => va_P (dC, dI) classes (gW cI cZ ad B E C O n F L V) T.heap ∧ va_K (dC, dI) classes (gT cI cZ) T ∧ va_D A (gW cI cZ ad B E C O n F L V)
def gW_Qi (dC : Nat → ClassId) (dI : Nat → Nat → Nat) (cI cZ : ClassId) (ad : Nat → Nat) (A : Nat → Prop) (B : fg_A) (E : fg_A) (C : fg_A) (O : fg_A) (n : Int32) (F : fg_A) (L : fg_A) (V : fg_A) (r : Int32) : Array Value → State → Outcome → State → Prop := va_Qi (fun (x : Int32) (_ : Unit) => x = r) (gW_B dC dI cI cZ ad A B E C O n F L V) A
def gW_Qv (dC : Nat → ClassId) (dI : Nat → Nat → Nat) (cI cZ : ClassId) (ad : Nat → Nat) (A : Nat → Prop) (B : fg_A) (E : fg_A) (C : fg_A) (O : fg_A) (n : Int32) (F : fg_A) (L : fg_A) (V : fg_A) : Array Value → State → Outcome → State → Prop := va_Qv (fun (_ : Unit) => True) (gW_B dC dI cI cZ ad A B E C O n F L V) A
theorem gW_pre {s : State} {H : Heap} {A : Nat → Prop} {dC : Nat → ClassId} {dI : Nat → Nat → Nat} {cI cZ : ClassId} {ad : Nat → Nat} {B : fg_A} {E : fg_A} {C : fg_A} {O : fg_A} {n : Int32} {F : fg_A} {L : fg_A} {V : fg_A} {As : List Value} (hK : va_K (dC, dI) classes (gT cI cZ) s) (hP : va_P (dC, dI) classes (gW cI cZ ad B E C O n F L V) H) (hD : va_D A (gW cI cZ ad B E C O n F L V)) : PreV s H R_G (ad 0) (gW_Pc dC dI cI cZ ad H.size B E C O n F L V (.ref (ad 0) :: As)) As := by
  refine ⟨fun a U g mk q => ?_, va_recv hK hP (ci := 0) (q0 := 0) rfl rfl, fun U hU hW => ⟨rfl, by rw [hU], by rw [hU]; exact hP, va_K.moved hW.alike hK, hD.weaken (fun _ _ _ _ => trivial)⟩⟩
  obtain ⟨q0, q1, qP, qK, qD⟩ := q
  exact ⟨q0, q1, qP, va_K.moved (u := U) (U := U.calling g mk a) (Vm.Alike.refl U.vm) qK, qD⟩
section FGGi
variable {p : Program} {l : Launch} {e : Env} {R : Room} {s : State} {m : MethodId} {args : Array Value} {below : List Frame} {meth : Method} {c : Code} {H H0 : Heap} {locs : List Loc} {cells slots : Nat} {Q : State → Prop} {rest st0 : List Value} {a : Array Value} {pc : Nat} {ls : Array Slot} {A : Nat → Prop} {dC : Nat → ClassId} {dI : Nat → Nat → Nat} {cI cZ : ClassId} {ad : Nat → Nat}
set_option maxRecDepth 20000 in
theorem fgG_i {B : fg_A} {E : fg_A} {C : fg_A} {O : fg_A} {n : Int32} {F : fg_A} {L : fg_A} {V : fg_A} {B' : fg_A} {E' : fg_A} {C' : fg_A} {O' : fg_A} {n' : Int32} {F' : fg_A} {L' : fg_A} {V' : fg_A} {r : Int32} (hr : va_Run p l e R s m args below meth c H locs cells slots 0 0 (F0 m pc ls st0) rest (gW_Qi dC dI cI cZ ad (va_A (gW cI cZ ad B E C O n F L V) H.size) B' E' C' O' n' F' L' V' r a) (va_A (gW cI cZ ad B E C O n F L V) H.size)) (hP : va_P (dC, dI) classes (gW cI cZ ad B E C O n F L V) H) (hD : va_D A (gW cI cZ ad B E C O n F L V)) (hS : va_S A H0 H locs) (hA : ∀ q, H0.size ≤ q → A q)
    (kk : ∀ (H1 : Heap) (locs1 : List Loc), va_P (dC, dI) classes (gW cI cZ ad B' E' C' O' n' F' L' V') H1 → va_D A (gW cI cZ ad B' E' C' O' n' F' L' V') → va_S A H0 H1 locs1 → W p l e R s m args below meth c H1 locs1 cells slots Q (F0 m (pc + 3) ls (.int r :: rest))) : W p l e R s m args below meth c H locs cells slots Q (F0 m pc ls st0) := by
  have hFc := va_free (wc := gW cI cZ ad B E C O n F L V) hD hS hA [0, 1, 2, 3, 4, 5, 6, 7] rfl
  refine va_calli hr hS (fun q _ h => hFc q h) hFc (fun r1 u T H1 locs1 ht hvm hw hB hz1 hk1 hS1 => ?_)
  obtain ⟨hP1, hK1, hD1⟩ := hB
  rw [ht] at hP1
  obtain ⟨hP2, hD2⟩ := va_join (wr := []) (w1 := gW cI cZ ad B' E' C' O' n' F' L' V') hP hD [0, 1, 2, 3, 4, 5, 6, 7] [] rfl rfl (by decide) (by decide) hk1 hFc hP1 hD1
  subst hw
  exact kk H1 locs1 hP2 hD2 hS1
end FGGi
section FGGv
variable {p : Program} {l : Launch} {e : Env} {R : Room} {s : State} {m : MethodId} {args : Array Value} {below : List Frame} {meth : Method} {c : Code} {H H0 : Heap} {locs : List Loc} {cells slots : Nat} {Q : State → Prop} {rest st0 : List Value} {a : Array Value} {pc : Nat} {ls : Array Slot} {A : Nat → Prop} {dC : Nat → ClassId} {dI : Nat → Nat → Nat} {cI cZ : ClassId} {ad : Nat → Nat}
set_option maxRecDepth 20000 in
theorem fgG_v {B : fg_A} {E : fg_A} {C : fg_A} {O : fg_A} {n : Int32} {F : fg_A} {L : fg_A} {V : fg_A} {B' : fg_A} {E' : fg_A} {C' : fg_A} {O' : fg_A} {n' : Int32} {F' : fg_A} {L' : fg_A} {V' : fg_A} (hr : va_Run p l e R s m args below meth c H locs cells slots 0 0 (F0 m pc ls st0) rest (gW_Qv dC dI cI cZ ad (va_A (gW cI cZ ad B E C O n F L V) H.size) B' E' C' O' n' F' L' V' a) (va_A (gW cI cZ ad B E C O n F L V) H.size)) (hP : va_P (dC, dI) classes (gW cI cZ ad B E C O n F L V) H) (hD : va_D A (gW cI cZ ad B E C O n F L V)) (hS : va_S A H0 H locs) (hA : ∀ q, H0.size ≤ q → A q)
    (kk : ∀ (H1 : Heap) (locs1 : List Loc), va_P (dC, dI) classes (gW cI cZ ad B' E' C' O' n' F' L' V') H1 → va_D A (gW cI cZ ad B' E' C' O' n' F' L' V') → va_S A H0 H1 locs1 → W p l e R s m args below meth c H1 locs1 cells slots Q (F0 m (pc + 3) ls rest)) : W p l e R s m args below meth c H locs cells slots Q (F0 m pc ls st0) := by
  have hFc := va_free (wc := gW cI cZ ad B E C O n F L V) hD hS hA [0, 1, 2, 3, 4, 5, 6, 7] rfl
  refine va_callv hr hS (fun q _ h => hFc q h) hFc (fun u T H1 locs1 ht hvm hw hB hz1 hk1 hS1 => ?_)
  obtain ⟨hP1, hK1, hD1⟩ := hB
  rw [ht] at hP1
  obtain ⟨hP2, hD2⟩ := va_join (wr := []) (w1 := gW cI cZ ad B' E' C' O' n' F' L' V') hP hD [0, 1, 2, 3, 4, 5, 6, 7] [] rfl rfl (by decide) (by decide) hk1 hFc hP1 hD1
  exact kk H1 locs1 hP2 hD2 hS1
end FGGv
abbrev mW (cI cZ : ClassId) (ad : Nat → Nat) (t : Int32) (n : Int32) (B : fg_A) (E : fg_A) (C : fg_A) (O : fg_A) (F : fg_A) (L : fg_A) (V : fg_A) : va_W := [(ad 0, .inr (1, [.int t, .int n, .ref (ad 1), .ref (ad 2), .ref (ad 3), .ref (ad 4), .ref (ad 5), .ref (ad 6), .ref (ad 7)])), (ad 1, .inl (cI, 90, .inl B)), (ad 2, .inl (cI, 90, .inl E)), (ad 3, .inl (cI, 90, .inl C)), (ad 4, .inl (cZ, 90, .inl O)), (ad 5, .inl (cI, 28, .inl F)), (ad 6, .inl (cI, 90, .inl L)), (ad 7, .inl (cI, 28, .inl V))]
def mW_Pc (dC : Nat → ClassId) (dI : Nat → Nat → Nat) (cI cZ : ClassId) (ad : Nat → Nat) (sz : Nat) (t : Int32) (n : Int32) (B : fg_A) (E : fg_A) (C : fg_A) (O : fg_A) (F : fg_A) (L : fg_A) (V : fg_A) (av : List Value) : Array Value → State → Prop := va_Pc av (fun U => U.heap.size = sz ∧ va_P (dC, dI) classes (mW cI cZ ad t n B E C O F L V) U.heap ∧ va_K (dC, dI) classes (gT cI cZ) U ∧ va_D (fun _ => True) (mW cI cZ ad t n B E C O F L V))
def mW_B (dC : Nat → ClassId) (dI : Nat → Nat → Nat) (cI cZ : ClassId) (ad : Nat → Nat) (A : Nat → Prop) (t : Int32) (n : Int32) (B : fg_A) (E : fg_A) (C : fg_A) (O : fg_A) (F : fg_A) (L : fg_A) (V : fg_A) : Unit → State → Prop := fun _ T => va_P (dC, dI) classes (mW cI cZ ad t n B E C O F L V) T.heap ∧ va_K (dC, dI) classes (gT cI cZ) T ∧ va_D A (mW cI cZ ad t n B E C O F L V)
def mW_Qi (dC : Nat → ClassId) (dI : Nat → Nat → Nat) (cI cZ : ClassId) (ad : Nat → Nat) (A : Nat → Prop) (t : Int32) (n : Int32) (B : fg_A) (E : fg_A) (C : fg_A) (O : fg_A) (F : fg_A) (L : fg_A) (V : fg_A) (r : Int32) : Array Value → State → Outcome → State → Prop := va_Qi (fun (x : Int32) (_ : Unit) => x = r) (mW_B dC dI cI cZ ad A t n B E C O F L V) A
def mW_Qv (dC : Nat → ClassId) (dI : Nat → Nat → Nat) (cI cZ : ClassId) (ad : Nat → Nat) (A : Nat → Prop) (t : Int32) (n : Int32) (B : fg_A) (E : fg_A) (C : fg_A) (O : fg_A) (F : fg_A) (L : fg_A) (V : fg_A) : Array Value → State → Outcome → State → Prop := va_Qv (fun (_ : Unit) => True) (mW_B dC dI cI cZ ad A t n B E C O F L V) A
theorem mW_pre {s : State} {H : Heap} {A : Nat → Prop} {dC : Nat → ClassId} {dI : Nat → Nat → Nat} {cI cZ : ClassId} {ad : Nat → Nat} {t : Int32} {n : Int32} {B : fg_A} {E : fg_A} {C : fg_A} {O : fg_A} {F : fg_A} {L : fg_A} {V : fg_A} {As : List Value} (hK : va_K (dC, dI) classes (gT cI cZ) s) (hP : va_P (dC, dI) classes (mW cI cZ ad t n B E C O F L V) H) (hD : va_D A (mW cI cZ ad t n B E C O F L V)) : PreV s H R_M (ad 0) (mW_Pc dC dI cI cZ ad H.size t n B E C O F L V (.ref (ad 0) :: As)) As := by
  refine ⟨fun a U g mk q => ?_, va_recv hK hP (ci := 1) (q0 := 0) rfl rfl, fun U hU hW => ⟨rfl, by rw [hU], by rw [hU]; exact hP, va_K.moved hW.alike hK, hD.weaken (fun _ _ _ _ => trivial)⟩⟩
  obtain ⟨q0, q1, qP, qK, qD⟩ := q
  exact ⟨q0, q1, qP, va_K.moved (u := U) (U := U.calling g mk a) (Vm.Alike.refl U.vm) qK, qD⟩
section FGMi
variable {p : Program} {l : Launch} {e : Env} {R : Room} {s : State} {m : MethodId} {args : Array Value} {below : List Frame} {meth : Method} {c : Code} {H H0 : Heap} {locs : List Loc} {cells slots : Nat} {Q : State → Prop} {rest st0 : List Value} {a : Array Value} {pc : Nat} {ls : Array Slot} {A : Nat → Prop} {dC : Nat → ClassId} {dI : Nat → Nat → Nat} {cI cZ : ClassId} {ad : Nat → Nat}
set_option maxRecDepth 20000 in
theorem fgM_i {t : Int32} {n : Int32} {B : fg_A} {E : fg_A} {C : fg_A} {O : fg_A} {F : fg_A} {L : fg_A} {V : fg_A} {t' : Int32} {n' : Int32} {B' : fg_A} {E' : fg_A} {C' : fg_A} {O' : fg_A} {F' : fg_A} {L' : fg_A} {V' : fg_A} {r : Int32} (hr : va_Run p l e R s m args below meth c H locs cells slots 0 0 (F0 m pc ls st0) rest (mW_Qi dC dI cI cZ ad (va_A (mW cI cZ ad t n B E C O F L V) H.size) t' n' B' E' C' O' F' L' V' r a) (va_A (mW cI cZ ad t n B E C O F L V) H.size)) (hP : va_P (dC, dI) classes (mW cI cZ ad t n B E C O F L V) H) (hD : va_D A (mW cI cZ ad t n B E C O F L V)) (hS : va_S A H0 H locs) (hA : ∀ q, H0.size ≤ q → A q)
    (kk : ∀ (H1 : Heap) (locs1 : List Loc), va_P (dC, dI) classes (mW cI cZ ad t' n' B' E' C' O' F' L' V') H1 → va_D A (mW cI cZ ad t' n' B' E' C' O' F' L' V') → va_S A H0 H1 locs1 → W p l e R s m args below meth c H1 locs1 cells slots Q (F0 m (pc + 3) ls (.int r :: rest))) : W p l e R s m args below meth c H locs cells slots Q (F0 m pc ls st0) := by
  have hFc := va_free (wc := mW cI cZ ad t n B E C O F L V) hD hS hA [0, 1, 2, 3, 4, 5, 6, 7] rfl
  refine va_calli hr hS (fun q _ h => hFc q h) hFc (fun r1 u T H1 locs1 ht hvm hw hB hz1 hk1 hS1 => ?_)
  obtain ⟨hP1, hK1, hD1⟩ := hB
  rw [ht] at hP1
  obtain ⟨hP2, hD2⟩ := va_join (wr := []) (w1 := mW cI cZ ad t' n' B' E' C' O' F' L' V') hP hD [0, 1, 2, 3, 4, 5, 6, 7] [] rfl rfl (by decide) (by decide) hk1 hFc hP1 hD1
  subst hw
  exact kk H1 locs1 hP2 hD2 hS1
end FGMi
section FGMv
variable {p : Program} {l : Launch} {e : Env} {R : Room} {s : State} {m : MethodId} {args : Array Value} {below : List Frame} {meth : Method} {c : Code} {H H0 : Heap} {locs : List Loc} {cells slots : Nat} {Q : State → Prop} {rest st0 : List Value} {a : Array Value} {pc : Nat} {ls : Array Slot} {A : Nat → Prop} {dC : Nat → ClassId} {dI : Nat → Nat → Nat} {cI cZ : ClassId} {ad : Nat → Nat}
set_option maxRecDepth 20000 in
theorem fgM_v {t : Int32} {n : Int32} {B : fg_A} {E : fg_A} {C : fg_A} {O : fg_A} {F : fg_A} {L : fg_A} {V : fg_A} {t' : Int32} {n' : Int32} {B' : fg_A} {E' : fg_A} {C' : fg_A} {O' : fg_A} {F' : fg_A} {L' : fg_A} {V' : fg_A} (hr : va_Run p l e R s m args below meth c H locs cells slots 0 0 (F0 m pc ls st0) rest (mW_Qv dC dI cI cZ ad (va_A (mW cI cZ ad t n B E C O F L V) H.size) t' n' B' E' C' O' F' L' V' a) (va_A (mW cI cZ ad t n B E C O F L V) H.size)) (hP : va_P (dC, dI) classes (mW cI cZ ad t n B E C O F L V) H) (hD : va_D A (mW cI cZ ad t n B E C O F L V)) (hS : va_S A H0 H locs) (hA : ∀ q, H0.size ≤ q → A q)
    (kk : ∀ (H1 : Heap) (locs1 : List Loc), va_P (dC, dI) classes (mW cI cZ ad t' n' B' E' C' O' F' L' V') H1 → va_D A (mW cI cZ ad t' n' B' E' C' O' F' L' V') → va_S A H0 H1 locs1 → W p l e R s m args below meth c H1 locs1 cells slots Q (F0 m (pc + 3) ls rest)) : W p l e R s m args below meth c H locs cells slots Q (F0 m pc ls st0) := by
  have hFc := va_free (wc := mW cI cZ ad t n B E C O F L V) hD hS hA [0, 1, 2, 3, 4, 5, 6, 7] rfl
  refine va_callv hr hS (fun q _ h => hFc q h) hFc (fun u T H1 locs1 ht hvm hw hB hz1 hk1 hS1 => ?_)
  obtain ⟨hP1, hK1, hD1⟩ := hB
  rw [ht] at hP1
  obtain ⟨hP2, hD2⟩ := va_join (wr := []) (w1 := mW cI cZ ad t' n' B' E' C' O' F' L' V') hP hD [0, 1, 2, 3, 4, 5, 6, 7] [] rfl rfl (by decide) (by decide) hk1 hFc hP1 hD1
  exact kk H1 locs1 hP2 hD2 hS1
end FGMv
