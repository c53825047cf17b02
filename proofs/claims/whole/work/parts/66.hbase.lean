/-! The helpers' world (hW: the class's cells and the law's own array), and rows for their calls. -/
abbrev gTL (cI cZ cJ : ClassId) : List (ClassId × FieldType) := [(cI, .int), (cZ, .boolean), (cJ, .long)]
abbrev hW (cI cZ cJ : ClassId) (ad : Nat → Nat) (q : Nat) (gB : fg_A) (gE : fg_A) (gC : fg_A) (gO : fg_A) (gn : Int32) (gF : fg_A) (gL : fg_A) (gV : fg_A) (w : fg_J) : va_W := [(ad 0, .inr (0, [.ref (ad 1), .ref (ad 2), .ref (ad 3), .ref (ad 4), .int gn, .ref (ad 5), .ref (ad 6), .ref (ad 7)])), (ad 1, .inl (cI, 90, .inl gB)), (ad 2, .inl (cI, 90, .inl gE)), (ad 3, .inl (cI, 90, .inl gC)), (ad 4, .inl (cZ, 90, .inl gO)), (ad 5, .inl (cI, 28, .inl gF)), (ad 6, .inl (cI, 90, .inl gL)), (ad 7, .inl (cI, 28, .inl gV)), (q, .inl (cJ, 1, .inr (.inl w)))]
def tx_C (U : State) : Prop := va_Nc (xn 1) (xn 0) U ∧ va_Nc (xn 2) (xn 0) U
theorem tx_C.moved {u U : State} (h : u.vm.Alike U.vm) (hC : tx_C u) : tx_C U := ⟨hC.1.moved h, hC.2.moved h⟩
theorem xc_0 : Cond.castable (xn 0) (xn 0) ∈ tx_nw := by decide +kernel
theorem xc_1 : Cond.castable (xn 1) (xn 1) ∈ tx_nw := by decide +kernel
theorem xc_2 : Cond.castable (xn 2) (xn 2) ∈ tx_nw := by decide +kernel
theorem tx_cast {f : Nat → Nat} {A : Nat → Prop} {s : State} {H : Heap} {args : Array Value} (hX : tx_E f A s H) {w : Cond} (h : w ∈ tx_nw) : w.before args s = true := va_Nw.use (tx_nw_on w h) (hX.2.2.1 w h)
def hW_Pc (f : Nat → Nat) (dC : Nat → ClassId) (dI : Nat → Nat → Nat) (cI cZ cJ : ClassId) (ad : Nat → Nat) (q : Nat) (sz : Nat) (gB : fg_A) (gE : fg_A) (gC : fg_A) (gO : fg_A) (gn : Int32) (gF : fg_A) (gL : fg_A) (gV : fg_A) (w : fg_J) (av : List Value) : Array Value → State → Prop := va_Pc av (fun U => U.heap.size = sz ∧ va_P (dC, dI) classes (hW cI cZ cJ ad q gB gE gC gO gn gF gL gV w) U.heap ∧ va_K (dC, dI) classes (gTL cI cZ cJ) U ∧ va_D (fun _ => True) (hW cI cZ cJ ad q gB gE gC gO gn gF gL gV w) ∧ tx_E f (va_A (hW cI cZ cJ ad q gB gE gC gO gn gF gL gV w) sz) U U.heap ∧ tx_C U)
def hW_B (dC : Nat → ClassId) (dI : Nat → Nat → Nat) (cI cZ cJ : ClassId) (ad : Nat → Nat) (q : Nat) (A : Nat → Prop) (gB : fg_A) (gE : fg_A) (gC : fg_A) (gO : fg_A) (gn : Int32) (gF : fg_A) (gL : fg_A) (gV : fg_A) (w : fg_J) : Unit → State → Prop := fun _ T => va_P (dC, dI) classes (hW cI cZ cJ ad q gB gE gC gO gn gF gL gV w) T.heap ∧ va_K (dC, dI) classes (gTL cI cZ cJ) T ∧ va_D A (hW cI cZ cJ ad q gB gE gC gO gn gF gL gV w)
def hW_Qi (dC : Nat → ClassId) (dI : Nat → Nat → Nat) (cI cZ cJ : ClassId) (ad : Nat → Nat) (q : Nat) (A : Nat → Prop) (gB : fg_A) (gE : fg_A) (gC : fg_A) (gO : fg_A) (gn : Int32) (gF : fg_A) (gL : fg_A) (gV : fg_A) (w : fg_J) (r : Int32) : Array Value → State → Outcome → State → Prop := va_Qi (fun (x : Int32) (_ : Unit) => x = r) (hW_B dC dI cI cZ cJ ad q A gB gE gC gO gn gF gL gV w) A
theorem hW_pre {f : Nat → Nat} {s : State} {H : Heap} {locs : List Loc} {A A1 : Nat → Prop} {dC : Nat → ClassId} {dI : Nat → Nat → Nat} {cI cZ cJ : ClassId} {ad : Nat → Nat} {q : Nat} {gB : fg_A} {gE : fg_A} {gC : fg_A} {gO : fg_A} {gn : Int32} {gF : fg_A} {gL : fg_A} {gV : fg_A} {w : fg_J} {As : List Value} (hK : va_K (dC, dI) classes (gTL cI cZ cJ) s) (hP : va_P (dC, dI) classes (hW cI cZ cJ ad q gB gE gC gO gn gF gL gV w) H) (hD : va_D A1 (hW cI cZ cJ ad q gB gE gC gO gn gF gL gV w)) (hS : va_S A s.heap H locs) (hX : tx_E f A s s.heap) (hC : tx_C s) (hF : ∀ z, va_A (hW cI cZ cJ ad q gB gE gC gO gn gF gL gV w) H.size z → A z) : PreS s H (hW_Pc f dC dI cI cZ cJ ad q H.size gB gE gC gO gn gF gL gV w As) As := by
  refine ⟨fun a U g mk z => ?_, fun U hU hW => ⟨rfl, by rw [hU], by rw [hU]; exact hP, va_K.moved hW.alike hK, hD.weaken (fun _ _ _ _ => trivial), by rw [hU]; exact hX.use hS hF hW, hC.moved hW.alike⟩⟩
  obtain ⟨q0, q1, qP, qK, qD, qX, qC⟩ := z
  exact ⟨q0, q1, qP, va_K.moved (u := U) (U := U.calling g mk a) (Vm.Alike.refl U.vm) qK, qD, qX.calling, tx_C.moved (u := U) (U := U.calling g mk a) (Vm.Alike.refl U.vm) qC⟩
section FGH
variable {p : Program} {l : Launch} {e : Env} {R : Room} {s : State} {m : MethodId} {args : Array Value} {below : List Frame} {meth : Method} {c : Code} {H H0 : Heap} {locs : List Loc} {cells slots : Nat} {Q : State → Prop} {rest st0 : List Value} {a : Array Value} {pc : Nat} {ls : Array Slot} {A : Nat → Prop} {dC : Nat → ClassId} {dI : Nat → Nat → Nat} {cI cZ cJ : ClassId} {ad am : Nat → Nat} {q : Nat} {w : fg_J}
set_option maxRecDepth 20000 in
theorem fgH_i {gB : fg_A} {gE : fg_A} {gC : fg_A} {gO : fg_A} {gn : Int32} {gF : fg_A} {gL : fg_A} {gV : fg_A} {gB' : fg_A} {gE' : fg_A} {gC' : fg_A} {gO' : fg_A} {gn' : Int32} {gF' : fg_A} {gL' : fg_A} {gV' : fg_A} {r : Int32} (hr : va_Run p l e R s m args below meth c H locs cells slots 0 0 (F0 m pc ls st0) rest (gW_Qi dC dI cI cZ ad (va_A (gW cI cZ ad gB gE gC gO gn gF gL gV) H.size) gB' gE' gC' gO' gn' gF' gL' gV' r a) (va_A (gW cI cZ ad gB gE gC gO gn gF gL gV) H.size)) (hP : va_P (dC, dI) classes (hW cI cZ cJ ad q gB gE gC gO gn gF gL gV w) H) (hD : va_D A (hW cI cZ cJ ad q gB gE gC gO gn gF gL gV w)) (hS : va_S A H0 H locs) (hA : ∀ z, H0.size ≤ z → A z)
    (kk : ∀ (H1 : Heap) (locs1 : List Loc), va_P (dC, dI) classes (hW cI cZ cJ ad q gB' gE' gC' gO' gn' gF' gL' gV' w) H1 → va_D A (hW cI cZ cJ ad q gB' gE' gC' gO' gn' gF' gL' gV' w) → va_S A H0 H1 locs1 → W p l e R s m args below meth c H1 locs1 cells slots Q (F0 m (pc + 3) ls (.int r :: rest))) : W p l e R s m args below meth c H locs cells slots Q (F0 m pc ls st0) := by
  have hFc := va_free (wc := gW cI cZ ad gB gE gC gO gn gF gL gV) hD hS hA [0, 1, 2, 3, 4, 5, 6, 7] rfl
  refine va_calli hr hS (fun q _ h => hFc q h) hFc (fun r1 u T H1 locs1 ht hvm hw hB hz1 hk1 hS1 => ?_)
  obtain ⟨hP1, hK1, hD1⟩ := hB
  rw [ht] at hP1
  obtain ⟨hP2, hD2⟩ := va_join (wr := [(q, .inl (cJ, 1, .inr (.inl w)))]) (w1 := gW cI cZ ad gB' gE' gC' gO' gn' gF' gL' gV') hP hD [0, 1, 2, 3, 4, 5, 6, 7] [8] rfl rfl (by decide) (by decide) hk1 hFc hP1 hD1
  subst hw
  exact kk H1 locs1 (hP2.sub [1, 2, 3, 4, 5, 6, 7, 8, 0] rfl) (hD2.sub [1, 2, 3, 4, 5, 6, 7, 8, 0] (by decide) rfl) hS1
set_option maxRecDepth 20000 in
theorem fgH_x {gB : fg_A} {gE : fg_A} {gC : fg_A} {gO : fg_A} {gn : Int32} {gF : fg_A} {gL : fg_A} {gV : fg_A} {gB' : fg_A} {gE' : fg_A} {gC' : fg_A} {gO' : fg_A} {gn' : Int32} {gF' : fg_A} {gL' : fg_A} {gV' : fg_A} {cd : Nat} (hr : vx_Run p l e R s m args below meth c H locs cells slots 1 6 (F0 m pc ls st0) rest (tG_Q (va_A (gW cI cZ ad gB gE gC gO gn gF gL gV) H.size) a) (tG_X dC dI cI cZ ad (va_A (gW cI cZ ad gB gE gC gO gn gF gL gV) H.size) gB' gE' gC' gO' gn' gF' gL' gV' cd) (va_A (gW cI cZ ad gB gE gC gO gn gF gL gV) H.size)) (hP : va_P (dC, dI) classes (hW cI cZ cJ ad q gB gE gC gO gn gF gL gV w) H) (hD : va_D A (hW cI cZ cJ ad q gB gE gC gO gn gF gL gV w)) (hS : va_S A H0 H locs) (hA : ∀ z, H0.size ≤ z → A z)
    (kk : ∀ (ce : Cell) (q9 : Addr) (H1 : Heap) (locs1 : List Loc), va_P (dC, dI) classes (hW cI cZ cJ ad q gB' gE' gC' gO' gn' gF' gL' gV' w) H1 → va_D A (hW cI cZ cJ ad q gB' gE' gC' gO' gn' gF' gL' gV' w) → va_S A H0 H1 locs1 → H1[q9]? = some ce → ce.vm = .none → s.vm.findClass (xn cd) = some ce.cls → vx_W p l e R s m args below meth c H1 locs1 (cells + 1) (slots + 6) Q (F0 m pc ls rest) q9) : W p l e R s m args below meth c H locs cells slots Q (F0 m pc ls st0) := by
  have hFc := va_free (wc := gW cI cZ ad gB gE gC gO gn gF gL gV) hD hS hA [0, 1, 2, 3, 4, 5, 6, 7] rfl
  refine vx_calli hr hS (fun q _ h => hFc q h) hFc (fun q _ h => hFc q h) ?_ (fun _ _ _ _ _ _ _ hF => hF.elim)
  intro E ce q9 u T H1 locs1 ht hvm _ hB hz1 hk1 hS1 hce hv hcl
  obtain ⟨hE, hP1, hK1, hD1⟩ := hB
  subst hE
  rw [ht] at hP1
  obtain ⟨hP2, hD2⟩ := va_join (wr := [(q, .inl (cJ, 1, .inr (.inl w)))]) (w1 := gW cI cZ ad gB' gE' gC' gO' gn' gF' gL' gV') hP hD [0, 1, 2, 3, 4, 5, 6, 7] [8] rfl rfl (by decide) (by decide) hk1 hFc hP1 hD1
  exact kk ce q9 H1 locs1 (hP2.sub [1, 2, 3, 4, 5, 6, 7, 8, 0] rfl) (hD2.sub [1, 2, 3, 4, 5, 6, 7, 8, 0] (by decide) rfl) hS1 hce hv hcl
end FGH
