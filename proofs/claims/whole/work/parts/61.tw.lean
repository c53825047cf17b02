/-! The class's methods where they throw. -/
def tG_Pc (f : Nat → Nat) (dC : Nat → ClassId) (dI : Nat → Nat → Nat) (cI cZ : ClassId) (ad : Nat → Nat) (sz : Nat) (B : fg_A) (E : fg_A) (C : fg_A) (O : fg_A) (n : Int32) (F : fg_A) (L : fg_A) (V : fg_A) (av : List Value) : Array Value → State → Prop := va_Pc av (fun U => U.heap.size = sz ∧ va_P (dC, dI) classes (gW cI cZ ad B E C O n F L V) U.heap ∧ va_K (dC, dI) classes (gT cI cZ) U ∧ va_D (fun _ => True) (gW cI cZ ad B E C O n F L V) ∧ tx_E f (va_A (gW cI cZ ad B E C O n F L V) sz) U U.heap)
abbrev tG_X (dC : Nat → ClassId) (dI : Nat → Nat → Nat) (cI cZ : ClassId) (ad : Nat → Nat) (A : Nat → Prop) (B : fg_A) (E : fg_A) (C : fg_A) (O : fg_A) (n : Int32) (F : fg_A) (L : fg_A) (V : fg_A) (cd : Nat) : String → State → State → Prop := vx_X (fun (_ : Unit) => True) (fun E9 _ T => E9 = xn cd ∧ gW_B dC dI cI cZ ad A B E C O n F L V () T) A
theorem tG_pre {f : Nat → Nat} {s : State} {H : Heap} {locs : List Loc} {A A1 : Nat → Prop} {dC : Nat → ClassId} {dI : Nat → Nat → Nat} {cI cZ : ClassId} {ad : Nat → Nat} {B : fg_A} {E : fg_A} {C : fg_A} {O : fg_A} {n : Int32} {F : fg_A} {L : fg_A} {V : fg_A} {As : List Value} (hK : va_K (dC, dI) classes (gT cI cZ) s) (hP : va_P (dC, dI) classes (gW cI cZ ad B E C O n F L V) H) (hD : va_D A1 (gW cI cZ ad B E C O n F L V)) (hS : va_S A s.heap H locs) (hX : tx_E f A s s.heap) (hF : ∀ q, va_A (gW cI cZ ad B E C O n F L V) H.size q → A q) : PreV s H R_G (ad 0) (tG_Pc f dC dI cI cZ ad H.size B E C O n F L V (.ref (ad 0) :: As)) As := by
  refine ⟨fun a U g mk q => ?_, va_recv hK hP (ci := 0) (q0 := 0) rfl rfl, fun U hU hW => ⟨rfl, by rw [hU], by rw [hU]; exact hP, va_K.moved hW.alike hK, hD.weaken (fun _ _ _ _ => trivial), by rw [hU]; exact hX.use hS hF hW⟩⟩
  obtain ⟨q0, q1, qP, qK, qD, qX⟩ := q
  exact ⟨q0, q1, qP, va_K.moved (u := U) (U := U.calling g mk a) (Vm.Alike.refl U.vm) qK, qD, qX.calling⟩
abbrev rmT_G_turn : Room := { frames := 6, cells := 1, slots := 6, locals := 89 }
set_option maxHeartbeats 4000000 in
set_option maxRecDepth 100000 in
theorem ct_G_turn (l : Launch) (hst : l.stackTraces = false) (f : Nat → Nat) (dC : Nat → ClassId) (dI : Nat → Nat → Nat) (cI cZ : ClassId) (ad : Nat → Nat) (sz : Nat) (B : fg_A) (E : fg_A) (C : fg_A) (O : fg_A) (n : Int32) (F : fg_A) (L : fg_A) (V : fg_A) (p0 : Int32) (p1 : Int32) (o : Nat) (hf : t_G_turn O n p0 p1 = some o) : vx_Met l y_G_turn w_G_turn rmT_G_turn (tG_Pc f dC dI cI cZ ad sz B E C O n F L V [.ref (ad 0), .int p0, .int p1]) (tG_Q (va_A (gW cI cZ ad B E C O n F L V) sz)) (tG_X dC dI cI cZ ad (va_A (gW cI cZ ad B E C O n F L V) sz) B E C O n F L V o) 1 6 (va_A (gW cI cZ ad B E C O n F L V) sz) := by
  refine vx_ofW (cc := b_G_turn) (maxL := 4) (ret := (some .boolean)) (by decide) rfl ?_
  intro p e s m args below meth c s₁ Bd hml ht hv
  obtain ⟨rfl, hsz, hP, hK, hD0, hX⟩ := hv
  have hx := Bd.exec
  have hb := Bd.bytes
  have hr := Bd.returns
  have hts := fun w h => atoms_spec (ws := w_G_turn) Bd.pre w (List.mem_cons_of_mem _ h)
  have hown : s.vm.findClass R_G = some m.cls := findClass_of_methodNamed Bd.named
  have hlocks := Bd.notSynchronized
  subst hsz
  have hD := hD0.self (sz := s.heap.size)
  generalize hAe : va_A (gW cI cZ ad B E C O n F L V) s.heap.size = A at hD hX ⊢
  have hA : ∀ q : Nat, s.heap.size ≤ q → A q := fun q h => by rw [← hAe]; exact Or.inr h
  have hS : va_S A s.heap s.heap [] := va_S.rf
  have hl := lv_entry ([.ref (ad 0), .int p0, .int p1]) (n := 4) (Nat.le_of_ble_eq_true rfl)
  rw [lg_entry_eq]
  generalize (lg_sl ([.ref (ad 0), .int p0, .int p1]) ++ List.replicate (4 - (lg_sl ([.ref (ad 0), .int p0, .int p1])).length) Slot.unset).toArray = ls at hl ⊢
  have hl : lv_has ls 4 [(0, .ref (ad 0)), (1, .int p0), (2, .int p1)] := hl
  unfold t_G_turn at hf
  refine lv_iload_n hx hb d_G_turn_0 rfl (lv_at hl 1 rfl) ?_
  refine lv_if_lt (tgt := 12) hx hb d_G_turn_1 (by decide) (fun hc => ?_) (fun hc => ?_)
  · rw [if_pos hc] at hf
    cases hf
    exact tx_n (cd := 2) hx hb hst hown hts hX hS ht hlocks (hl.1.trans hml.symm) tx_ok2 (tx := "no such rule") (by decide +kernel) d_G_turn_12 d_G_turn_15 d_G_turn_16 d_G_turn_18 d_G_turn_21 ⟨Nat.le_of_ble_eq_true rfl, Nat.le_of_ble_eq_true rfl, Nat.le_of_ble_eq_true rfl, Nat.le_of_ble_eq_true rfl⟩ (fun t hal hq hF => ⟨(), trivial, ⟨rfl, fg_keepP hP hq, va_K.moved hal hK, hD⟩, hF⟩)
  · rw [if_neg hc] at hf
    refine lv_iload_n hx hb d_G_turn_4 rfl (lv_at hl 1 rfl) ?_
    refine lv_aload_n hx hb d_G_turn_5 rfl (lv_at hl 0 rfl) ?_
    refine va_get (D := (dC, dI)) (ci := 0) (v := .int n) (C := R_G) (T := F_G) (N := 8) hx hb hts i_G hown hK hP 0 rfl rfl 4 (by decide) (hts _ fl_G_23) (fun _ h9 => h9) rfl d_G_turn_6 ?_
    refine lv_icmp_lt (tgt := 22) hx hb d_G_turn_9 (by decide) (fun hc => ?_) (fun hc => ?_)
    · rw [if_pos hc] at hf
      cases hf
    · rw [if_neg hc] at hf
      cases hf
      exact tx_n (cd := 2) hx hb hst hown hts hX hS ht hlocks (hl.1.trans hml.symm) tx_ok2 (tx := "no such rule") (by decide +kernel) d_G_turn_12 d_G_turn_15 d_G_turn_16 d_G_turn_18 d_G_turn_21 ⟨Nat.le_of_ble_eq_true rfl, Nat.le_of_ble_eq_true rfl, Nat.le_of_ble_eq_true rfl, Nat.le_of_ble_eq_true rfl⟩ (fun t hal hq hF => ⟨(), trivial, ⟨rfl, fg_keepP hP hq, va_K.moved hal hK, hD⟩, hF⟩)
abbrev rmT_G_needNode : Room := { frames := 6, cells := 1, slots := 6, locals := 89 }
set_option maxHeartbeats 4000000 in
set_option maxRecDepth 100000 in
theorem ct_G_needNode (l : Launch) (hst : l.stackTraces = false) (f : Nat → Nat) (sz : Nat) (p0 : Int32) (o : Nat) (hf : t_G_needNode p0 = some o) : vx_Met l y_G_needNode w_G_needNode rmT_G_needNode (tS_Pc f sz [.int p0]) (tS_Q sz) (tS_X sz o) 1 6 (va_A [] sz) := by
  refine vx_ofW (cc := b_G_needNode) (maxL := 1) (ret := none) (by decide) rfl ?_
  intro p e s m args below meth c s₁ Bd hml ht hv
  obtain ⟨rfl, hsz, hX⟩ := hv
  have hx := Bd.exec
  have hb := Bd.bytes
  have hr := Bd.returns
  have hts := fun w h => atoms_spec (ws := w_G_needNode) Bd.pre w (List.mem_cons_of_mem _ h)
  have hown : s.vm.findClass R_G = some m.cls := findClass_of_methodNamed Bd.named
  have hlocks := Bd.notSynchronized
  subst hsz
  have hA : ∀ q : Nat, s.heap.size ≤ q → va_A [] s.heap.size q := fun q h => Or.inr h
  have hS : va_S (va_A [] s.heap.size) s.heap s.heap [] := va_S.rf
  have hl := lv_entry ([.int p0]) (n := 1) (Nat.le_of_ble_eq_true rfl)
  rw [lg_entry_eq]
  generalize (lg_sl ([.int p0]) ++ List.replicate (1 - (lg_sl ([.int p0])).length) Slot.unset).toArray = ls at hl ⊢
  have hl : lv_has ls 1 [(0, .int p0)] := hl
  unfold t_G_needNode at hf
  refine lv_iload_n hx hb d_G_needNode_0 rfl (lv_at hl 0 rfl) ?_
  refine lv_if_lt (tgt := 10) hx hb d_G_needNode_1 (by decide) (fun hc => ?_) (fun hc => ?_)
  · rw [if_pos hc] at hf
    cases hf
    exact tx_n (cd := 0) hx hb hst hown hts hX hS ht hlocks (hl.1.trans hml.symm) tx_ok0 (tx := "no such node") (by decide +kernel) d_G_needNode_10 d_G_needNode_13 d_G_needNode_14 d_G_needNode_16 d_G_needNode_19 ⟨Nat.le_of_ble_eq_true rfl, Nat.le_of_ble_eq_true rfl, Nat.le_of_ble_eq_true rfl, Nat.le_of_ble_eq_true rfl⟩ (fun t hal hq hF => ⟨(), trivial, rfl, hF⟩)
  · rw [if_neg hc] at hf
    refine lv_iload_n hx hb d_G_needNode_4 rfl (lv_at hl 0 rfl) ?_
    refine lv_bipush (v := 28) hx hb d_G_needNode_5 (by decide) ?_
    refine lv_icmp_lt (tgt := 20) hx hb d_G_needNode_7 (by decide) (fun hc => ?_) (fun hc => ?_)
    · rw [if_pos hc] at hf
      cases hf
    · rw [if_neg hc] at hf
      cases hf
      exact tx_n (cd := 0) hx hb hst hown hts hX hS ht hlocks (hl.1.trans hml.symm) tx_ok0 (tx := "no such node") (by decide +kernel) d_G_needNode_10 d_G_needNode_13 d_G_needNode_14 d_G_needNode_16 d_G_needNode_19 ⟨Nat.le_of_ble_eq_true rfl, Nat.le_of_ble_eq_true rfl, Nat.le_of_ble_eq_true rfl, Nat.le_of_ble_eq_true rfl⟩ (fun t hal hq hF => ⟨(), trivial, rfl, hF⟩)
abbrev rmT_G_needNodes : Room := { frames := 7, cells := 1, slots := 6, locals := 109 }
set_option maxHeartbeats 4000000 in
set_option maxRecDepth 100000 in
theorem ct_G_needNodes (l : Launch) (hst : l.stackTraces = false) (f : Nat → Nat) (sz : Nat) (p0 : Int32) (p1 : Int32) (o : Nat) (hf : t_G_needNodes p0 p1 = some o) : vx_Met l y_G_needNodes w_G_needNodes rmT_G_needNodes (tS_Pc f sz [.int p0, .int p1]) (tS_Q sz) (tS_X sz o) 1 6 (va_A [] sz) := by
  refine vx_ofW (cc := b_G_needNodes) (maxL := 2) (ret := none) (by decide) rfl ?_
  intro p e s m args below meth c s₁ Bd hml ht hv
  obtain ⟨rfl, hsz, hX⟩ := hv
  have hx := Bd.exec
  have hb := Bd.bytes
  have hr := Bd.returns
  have hts := fun w h => atoms_spec (ws := w_G_needNodes) Bd.pre w (List.mem_cons_of_mem _ h)
  have hown : s.vm.findClass R_G = some m.cls := findClass_of_methodNamed Bd.named
  have hlocks := Bd.notSynchronized
  subst hsz
  have hA : ∀ q : Nat, s.heap.size ≤ q → va_A [] s.heap.size q := fun q h => Or.inr h
  have hS : va_S (va_A [] s.heap.size) s.heap s.heap [] := va_S.rf
  have hl := lv_entry ([.int p0, .int p1]) (n := 2) (Nat.le_of_ble_eq_true rfl)
  rw [lg_entry_eq]
  generalize (lg_sl ([.int p0, .int p1]) ++ List.replicate (2 - (lg_sl ([.int p0, .int p1])).length) Slot.unset).toArray = ls at hl ⊢
  have hl : lv_has ls 2 [(0, .int p0), (1, .int p1)] := hl
  unfold t_G_needNodes at hf
  refine lv_iload_n hx hb d_G_needNodes_0 rfl (lv_at hl 0 rfl) ?_
  rcases fg_ot_some hf with hf | ⟨-, hf⟩
  · exact tx_c (vx_runS (As := [.int p0]) (rest := []) ⟨hx, hb, hml, hown, hts⟩ (ct_G_needNode l hst f _ p0 _ hf) (cwS 1 hts gs_G_82 rfl rfl rfl (by decide +kernel) ⟨Nat.le_of_ble_eq_true rfl, Nat.le_of_ble_eq_true rfl⟩) (tS_pre hS hA hX) rfl rfl hl.1 rfl (lv_room (Nat.le_of_ble_eq_true rfl)) d_G_needNodes_1 ⟨Nat.le_of_ble_eq_true rfl, Nat.le_of_ble_eq_true rfl⟩) hS hA ht hlocks (fun t hal hq hF => ⟨(), trivial, rfl, hF⟩)
  · obtain ⟨o1, hco1, hf⟩ := fg_ob_some hf
    refine fg_v0 (W.runS (As := [.int p0]) (rest := []) ⟨hx, hb, hml, hown, hts⟩ (c_G_needNode l p0 hco1) (cwS 1 hts gs_G_82 rfl rfl rfl (by decide +kernel) ⟨Nat.le_of_ble_eq_true rfl, Nat.le_of_ble_eq_true rfl⟩) preEq rfl rfl hl.1 rfl (lv_room (Nat.le_of_ble_eq_true rfl)) d_G_needNodes_1 ⟨Nat.le_of_ble_eq_true rfl, Nat.le_of_ble_eq_true rfl⟩) ?_
    refine lv_iload_n hx hb d_G_needNodes_4 rfl (lv_at hl 1 rfl) ?_
    rcases fg_ot_some hf with hf | ⟨-, hf⟩
    · exact tx_c (vx_runS (As := [.int p1]) (rest := []) ⟨hx, hb, hml, hown, hts⟩ (ct_G_needNode l hst f _ p1 _ hf) (cwS 1 hts gs_G_82 rfl rfl rfl (by decide +kernel) ⟨Nat.le_of_ble_eq_true rfl, Nat.le_of_ble_eq_true rfl⟩) (tS_pre hS hA hX) rfl rfl hl.1 rfl (lv_room (Nat.le_of_ble_eq_true rfl)) d_G_needNodes_5 ⟨Nat.le_of_ble_eq_true rfl, Nat.le_of_ble_eq_true rfl⟩) hS hA ht hlocks (fun t hal hq hF => ⟨(), trivial, rfl, hF⟩)
    · obtain ⟨o2, hco2, hf⟩ := fg_ob_some hf
      refine fg_v0 (W.runS (As := [.int p1]) (rest := []) ⟨hx, hb, hml, hown, hts⟩ (c_G_needNode l p1 hco2) (cwS 1 hts gs_G_82 rfl rfl rfl (by decide +kernel) ⟨Nat.le_of_ble_eq_true rfl, Nat.le_of_ble_eq_true rfl⟩) preEq rfl rfl hl.1 rfl (lv_room (Nat.le_of_ble_eq_true rfl)) d_G_needNodes_5 ⟨Nat.le_of_ble_eq_true rfl, Nat.le_of_ble_eq_true rfl⟩) ?_
      cases hf
abbrev rmT_G_length : Room := { frames := 8, cells := 1, slots := 6, locals := 130 }
set_option maxHeartbeats 4000000 in
set_option maxRecDepth 100000 in
theorem ct_G_length (l : Launch) (hst : l.stackTraces = false) (f : Nat → Nat) (dC : Nat → ClassId) (dI : Nat → Nat → Nat) (cI cZ : ClassId) (ad : Nat → Nat) (sz : Nat) (B : fg_A) (E : fg_A) (C : fg_A) (O : fg_A) (n : Int32) (F : fg_A) (L : fg_A) (V : fg_A) (p0 : Int32) (p1 : Int32) (o : Nat) (hf : t_G_length B E O n F p0 p1 = some o) : vx_Met l y_G_length w_G_length rmT_G_length (tG_Pc f dC dI cI cZ ad sz B E C O n F L V [.ref (ad 0), .int p0, .int p1]) (tG_Q (va_A (gW cI cZ ad B E C O n F L V) sz)) (tG_X dC dI cI cZ ad (va_A (gW cI cZ ad B E C O n F L V) sz) B E C O n F L V o) 1 6 (va_A (gW cI cZ ad B E C O n F L V) sz) := by
  refine vx_ofW (cc := b_G_length) (maxL := 3) (ret := (some .int)) (by decide) rfl ?_
  intro p e s m args below meth c s₁ Bd hml ht hv
  obtain ⟨rfl, hsz, hP, hK, hD0, hX⟩ := hv
  have hx := Bd.exec
  have hb := Bd.bytes
  have hr := Bd.returns
  have hts := fun w h => atoms_spec (ws := w_G_length) Bd.pre w (List.mem_cons_of_mem _ h)
  have hown : s.vm.findClass R_G = some m.cls := findClass_of_methodNamed Bd.named
  have hlocks := Bd.notSynchronized
  subst hsz
  have hD := hD0.self (sz := s.heap.size)
  generalize hAe : va_A (gW cI cZ ad B E C O n F L V) s.heap.size = A at hD hX ⊢
  have hA : ∀ q : Nat, s.heap.size ≤ q → A q := fun q h => by rw [← hAe]; exact Or.inr h
  have hS : va_S A s.heap s.heap [] := va_S.rf
  have hl := lv_entry ([.ref (ad 0), .int p0, .int p1]) (n := 3) (Nat.le_of_ble_eq_true rfl)
  rw [lg_entry_eq]
  generalize (lg_sl ([.ref (ad 0), .int p0, .int p1]) ++ List.replicate (3 - (lg_sl ([.ref (ad 0), .int p0, .int p1])).length) Slot.unset).toArray = ls at hl ⊢
  have hl : lv_has ls 3 [(0, .ref (ad 0)), (1, .int p0), (2, .int p1)] := hl
  unfold t_G_length at hf
  refine lv_iload_n hx hb d_G_length_0 rfl (lv_at hl 1 rfl) ?_
  refine lv_iload_n hx hb d_G_length_1 rfl (lv_at hl 2 rfl) ?_
  rcases fg_ot_some hf with hf | ⟨-, hf⟩
  · exact tx_c (vx_runS (As := [.int p0, .int p1]) (rest := []) ⟨hx, hb, hml, hown, hts⟩ (ct_G_needNodes l hst f _ p0 p1 _ hf) (cwS 2 hts gs_G_57 rfl rfl rfl (by decide +kernel) ⟨Nat.le_of_ble_eq_true rfl, Nat.le_of_ble_eq_true rfl⟩) (tS_pre hS hA hX) rfl rfl hl.1 rfl (lv_room (Nat.le_of_ble_eq_true rfl)) d_G_length_2 ⟨Nat.le_of_ble_eq_true rfl, Nat.le_of_ble_eq_true rfl⟩) hS hA ht hlocks (fun t hal hq hF => ⟨(), trivial, ⟨rfl, fg_keepP hP hq, va_K.moved hal hK, hD⟩, hF⟩)
  · obtain ⟨o1, hco1, hf⟩ := fg_ob_some hf
    refine fg_v0 (W.runS (As := [.int p0, .int p1]) (rest := []) ⟨hx, hb, hml, hown, hts⟩ (c_G_needNodes l p0 p1 hco1) (cwS 2 hts gs_G_57 rfl rfl rfl (by decide +kernel) ⟨Nat.le_of_ble_eq_true rfl, Nat.le_of_ble_eq_true rfl⟩) preEq rfl rfl hl.1 rfl (lv_room (Nat.le_of_ble_eq_true rfl)) d_G_length_2 ⟨Nat.le_of_ble_eq_true rfl, Nat.le_of_ble_eq_true rfl⟩) ?_
    cases hf
abbrev rmT_G_step : Room := { frames := 8, cells := 1, slots := 6, locals := 130 }
set_option maxHeartbeats 4000000 in
set_option maxRecDepth 100000 in
theorem ct_G_step (l : Launch) (hst : l.stackTraces = false) (f : Nat → Nat) (dC : Nat → ClassId) (dI : Nat → Nat → Nat) (cI cZ : ClassId) (ad : Nat → Nat) (sz : Nat) (B : fg_A) (E : fg_A) (C : fg_A) (O : fg_A) (n : Int32) (F : fg_A) (L : fg_A) (V : fg_A) (p0 : Int32) (p1 : Int32) (p2 : Int32) (o : Nat × fg_A) (hf : t_G_step B E O n F p0 p1 p2 = some o) : vx_Met l y_G_step w_G_step rmT_G_step (tG_Pc f dC dI cI cZ ad sz B E C O n F L V [.ref (ad 0), .int p0, .int p1, .int p2]) (tG_Q (va_A (gW cI cZ ad B E C O n F L V) sz)) (tG_X dC dI cI cZ ad (va_A (gW cI cZ ad B E C O n F L V) sz) B E C O n o.2 L V o.1) 1 6 (va_A (gW cI cZ ad B E C O n F L V) sz) := by
  refine vx_ofW (cc := b_G_step) (maxL := 4) (ret := (some .int)) (by decide) rfl ?_
  intro p e s m args below meth c s₁ Bd hml ht hv
  obtain ⟨rfl, hsz, hP, hK, hD0, hX⟩ := hv
  have hx := Bd.exec
  have hb := Bd.bytes
  have hr := Bd.returns
  have hts := fun w h => atoms_spec (ws := w_G_step) Bd.pre w (List.mem_cons_of_mem _ h)
  have hown : s.vm.findClass R_G = some m.cls := findClass_of_methodNamed Bd.named
  have hlocks := Bd.notSynchronized
  subst hsz
  have hD := hD0.self (sz := s.heap.size)
  generalize hAe : va_A (gW cI cZ ad B E C O n F L V) s.heap.size = A at hD hX ⊢
  have hA : ∀ q : Nat, s.heap.size ≤ q → A q := fun q h => by rw [← hAe]; exact Or.inr h
  have hS : va_S A s.heap s.heap [] := va_S.rf
  have hl := lv_entry ([.ref (ad 0), .int p0, .int p1, .int p2]) (n := 4) (Nat.le_of_ble_eq_true rfl)
  rw [lg_entry_eq]
  generalize (lg_sl ([.ref (ad 0), .int p0, .int p1, .int p2]) ++ List.replicate (4 - (lg_sl ([.ref (ad 0), .int p0, .int p1, .int p2])).length) Slot.unset).toArray = ls at hl ⊢
  have hl : lv_has ls 4 [(0, .ref (ad 0)), (1, .int p0), (2, .int p1), (3, .int p2)] := hl
  unfold t_G_step at hf
  refine lv_iload_n hx hb d_G_step_0 rfl (lv_at hl 1 rfl) ?_
  refine lv_iload_n hx hb d_G_step_1 rfl (lv_at hl 2 rfl) ?_
  rcases fg_ot_some hf with hf | ⟨-, hf⟩
  · obtain ⟨cd, hf9, hf2⟩ := fg_ob_some hf
    cases hf2
    have hf := hf9
    exact tx_c (vx_runS (As := [.int p0, .int p1]) (rest := []) ⟨hx, hb, hml, hown, hts⟩ (ct_G_needNodes l hst f _ p0 p1 _ hf) (cwS 2 hts gs_G_57 rfl rfl rfl (by decide +kernel) ⟨Nat.le_of_ble_eq_true rfl, Nat.le_of_ble_eq_true rfl⟩) (tS_pre hS hA hX) rfl rfl hl.1 rfl (lv_room (Nat.le_of_ble_eq_true rfl)) d_G_step_2 ⟨Nat.le_of_ble_eq_true rfl, Nat.le_of_ble_eq_true rfl⟩) hS hA ht hlocks (fun t hal hq hF => ⟨(), trivial, ⟨rfl, fg_keepP hP hq, va_K.moved hal hK, hD⟩, hF⟩)
  · obtain ⟨o1, hco1, hf⟩ := fg_ob_some hf
    refine fg_v0 (W.runS (As := [.int p0, .int p1]) (rest := []) ⟨hx, hb, hml, hown, hts⟩ (c_G_needNodes l p0 p1 hco1) (cwS 2 hts gs_G_57 rfl rfl rfl (by decide +kernel) ⟨Nat.le_of_ble_eq_true rfl, Nat.le_of_ble_eq_true rfl⟩) preEq rfl rfl hl.1 rfl (lv_room (Nat.le_of_ble_eq_true rfl)) d_G_step_2 ⟨Nat.le_of_ble_eq_true rfl, Nat.le_of_ble_eq_true rfl⟩) ?_
    refine lv_aload_n hx hb d_G_step_5 rfl (lv_at hl 0 rfl) ?_
    refine lv_iload_n hx hb d_G_step_6 rfl (lv_at hl 2 rfl) ?_
    obtain ⟨o2, hco2, hf⟩ := fg_ob_some hf
    refine fgG_v (va_runV (As := [.int p1]) (rest := []) ⟨hx, hb, hml, hown, hts⟩ (c_G_measureWaysTo l dC dI cI cZ ad _ B E C O n F L V p1 o2 hco2) (cwV 1 hts gv_G_60 rfl rfl rfl (by decide +kernel) ⟨Nat.le_of_ble_eq_true rfl, Nat.le_of_ble_eq_true rfl⟩) (gW_pre hK hP hD) rfl rfl hl.1 rfl (lv_room (Nat.le_of_ble_eq_true rfl)) d_G_step_7 ⟨Nat.le_of_ble_eq_true rfl, Nat.le_of_ble_eq_true rfl⟩) hP hD hS hA (fun H locs hP hD hS => ?_)
    refine lv_iload_n hx hb d_G_step_10 rfl (lv_at hl 3 rfl) ?_
    refine lv_if_lt (tgt := 24) hx hb d_G_step_11 (by decide) (fun hc => ?_) (fun hc => ?_)
    · rw [if_pos hc] at hf
      cases hf
      exact tx_n (cd := 2) hx hb hst hown hts hX hS ht hlocks (hl.1.trans hml.symm) tx_ok2 (tx := "the least way has no such rule") (by decide +kernel) d_G_step_24 d_G_step_27 d_G_step_28 d_G_step_30 d_G_step_33 ⟨Nat.le_of_ble_eq_true rfl, Nat.le_of_ble_eq_true rfl, Nat.le_of_ble_eq_true rfl, Nat.le_of_ble_eq_true rfl⟩ (fun t hal hq hF => ⟨(), trivial, ⟨rfl, fg_keepP hP hq, va_K.moved hal hK, hD⟩, hF⟩)
    · rw [if_neg hc] at hf
      refine lv_iload_n hx hb d_G_step_14 rfl (lv_at hl 3 rfl) ?_
      refine lv_aload_n hx hb d_G_step_15 rfl (lv_at hl 0 rfl) ?_
      refine va_get (D := (dC, dI)) (ci := 0) (v := .ref (ad 5)) (C := R_G) (T := F_G) (N := 8) hx hb hts i_G hown hK hP 0 rfl rfl 5 (by decide) (hts _ fl_G_27) (fun _ h9 => h9) rfl d_G_step_16 ?_
      refine lv_iload_n hx hb d_G_step_19 rfl (lv_at hl 1 rfl) ?_
      obtain ⟨hi, hf⟩ := fg_og_some hf
      refine va_iald hx hb hK hP 5 0 rfl rfl (ix_in hi) d_G_step_20 ?_
      refine lv_icmp_lt (tgt := 34) hx hb d_G_step_21 (by decide) (fun hc => ?_) (fun hc => ?_)
      · rw [if_pos hc] at hf
        cases hf
      · rw [if_neg hc] at hf
        cases hf
        exact tx_n (cd := 2) hx hb hst hown hts hX hS ht hlocks (hl.1.trans hml.symm) tx_ok2 (tx := "the least way has no such rule") (by decide +kernel) d_G_step_24 d_G_step_27 d_G_step_28 d_G_step_30 d_G_step_33 ⟨Nat.le_of_ble_eq_true rfl, Nat.le_of_ble_eq_true rfl, Nat.le_of_ble_eq_true rfl, Nat.le_of_ble_eq_true rfl⟩ (fun t hal hq hF => ⟨(), trivial, ⟨rfl, fg_keepP hP hq, va_K.moved hal hK, hD⟩, hF⟩)
abbrev rmT_G_needUnlikeNodes : Room := { frames := 8, cells := 1, slots := 6, locals := 130 }
set_option maxHeartbeats 4000000 in
set_option maxRecDepth 100000 in
theorem ct_G_needUnlikeNodes (l : Launch) (hst : l.stackTraces = false) (f : Nat → Nat) (sz : Nat) (p0 : Int32) (p1 : Int32) (o : Nat) (hf : t_G_needUnlikeNodes p0 p1 = some o) : vx_Met l y_G_needUnlikeNodes w_G_needUnlikeNodes rmT_G_needUnlikeNodes (tS_Pc f sz [.int p0, .int p1]) (tS_Q sz) (tS_X sz o) 1 6 (va_A [] sz) := by
  refine vx_ofW (cc := b_G_needUnlikeNodes) (maxL := 2) (ret := none) (by decide) rfl ?_
  intro p e s m args below meth c s₁ Bd hml ht hv
  obtain ⟨rfl, hsz, hX⟩ := hv
  have hx := Bd.exec
  have hb := Bd.bytes
  have hr := Bd.returns
  have hts := fun w h => atoms_spec (ws := w_G_needUnlikeNodes) Bd.pre w (List.mem_cons_of_mem _ h)
  have hown : s.vm.findClass R_G = some m.cls := findClass_of_methodNamed Bd.named
  have hlocks := Bd.notSynchronized
  subst hsz
  have hA : ∀ q : Nat, s.heap.size ≤ q → va_A [] s.heap.size q := fun q h => Or.inr h
  have hS : va_S (va_A [] s.heap.size) s.heap s.heap [] := va_S.rf
  have hl := lv_entry ([.int p0, .int p1]) (n := 2) (Nat.le_of_ble_eq_true rfl)
  rw [lg_entry_eq]
  generalize (lg_sl ([.int p0, .int p1]) ++ List.replicate (2 - (lg_sl ([.int p0, .int p1])).length) Slot.unset).toArray = ls at hl ⊢
  have hl : lv_has ls 2 [(0, .int p0), (1, .int p1)] := hl
  unfold t_G_needUnlikeNodes at hf
  refine lv_iload_n hx hb d_G_needUnlikeNodes_0 rfl (lv_at hl 0 rfl) ?_
  refine lv_iload_n hx hb d_G_needUnlikeNodes_1 rfl (lv_at hl 1 rfl) ?_
  rcases fg_ot_some hf with hf | ⟨-, hf⟩
  · exact tx_c (vx_runS (As := [.int p0, .int p1]) (rest := []) ⟨hx, hb, hml, hown, hts⟩ (ct_G_needNodes l hst f _ p0 p1 _ hf) (cwS 2 hts gs_G_57 rfl rfl rfl (by decide +kernel) ⟨Nat.le_of_ble_eq_true rfl, Nat.le_of_ble_eq_true rfl⟩) (tS_pre hS hA hX) rfl rfl hl.1 rfl (lv_room (Nat.le_of_ble_eq_true rfl)) d_G_needUnlikeNodes_2 ⟨Nat.le_of_ble_eq_true rfl, Nat.le_of_ble_eq_true rfl⟩) hS hA ht hlocks (fun t hal hq hF => ⟨(), trivial, rfl, hF⟩)
  · obtain ⟨o1, hco1, hf⟩ := fg_ob_some hf
    refine fg_v0 (W.runS (As := [.int p0, .int p1]) (rest := []) ⟨hx, hb, hml, hown, hts⟩ (c_G_needNodes l p0 p1 hco1) (cwS 2 hts gs_G_57 rfl rfl rfl (by decide +kernel) ⟨Nat.le_of_ble_eq_true rfl, Nat.le_of_ble_eq_true rfl⟩) preEq rfl rfl hl.1 rfl (lv_room (Nat.le_of_ble_eq_true rfl)) d_G_needUnlikeNodes_2 ⟨Nat.le_of_ble_eq_true rfl, Nat.le_of_ble_eq_true rfl⟩) ?_
    refine lv_iload_n hx hb d_G_needUnlikeNodes_5 rfl (lv_at hl 0 rfl) ?_
    refine lv_iload_n hx hb d_G_needUnlikeNodes_6 rfl (lv_at hl 1 rfl) ?_
    refine lv_icmp_ne (tgt := 20) hx hb d_G_needUnlikeNodes_7 (by decide) (fun hc => ?_) (fun hc => ?_)
    · rw [if_neg hc] at hf
      cases hf
    · rw [if_pos hc] at hf
      cases hf
      exact tx_n (cd := 0) hx hb hst hown hts hX hS ht hlocks (hl.1.trans hml.symm) tx_ok0 (tx := "both nodes are one") (by decide +kernel) d_G_needUnlikeNodes_10 d_G_needUnlikeNodes_13 d_G_needUnlikeNodes_14 d_G_needUnlikeNodes_16 d_G_needUnlikeNodes_19 ⟨Nat.le_of_ble_eq_true rfl, Nat.le_of_ble_eq_true rfl, Nat.le_of_ble_eq_true rfl, Nat.le_of_ble_eq_true rfl⟩ (fun t hal hq hF => ⟨(), trivial, rfl, hF⟩)
abbrev rmT_G_rule : Room := { frames := 9, cells := 1, slots := 6, locals := 151 }
set_option maxHeartbeats 4000000 in
set_option maxRecDepth 100000 in
theorem ct_G_rule (l : Launch) (hst : l.stackTraces = false) (f : Nat → Nat) (dC : Nat → ClassId) (dI : Nat → Nat → Nat) (cI cZ : ClassId) (ad : Nat → Nat) (sz : Nat) (B : fg_A) (E : fg_A) (C : fg_A) (O : fg_A) (n : Int32) (F : fg_A) (L : fg_A) (V : fg_A) (p0 : Int32) (p1 : Int32) (p2 : Int32) (o : Nat) (hf : t_G_rule B E C O n p0 p1 p2 = some o) : vx_Met l y_G_rule w_G_rule rmT_G_rule (tG_Pc f dC dI cI cZ ad sz B E C O n F L V [.ref (ad 0), .int p0, .int p1, .int p2]) (tG_Q (va_A (gW cI cZ ad B E C O n F L V) sz)) (tG_X dC dI cI cZ ad (va_A (gW cI cZ ad B E C O n F L V) sz) B E C O n F L V o) 1 6 (va_A (gW cI cZ ad B E C O n F L V) sz) := by
  refine vx_ofW (cc := b_G_rule) (maxL := 5) (ret := (some .int)) (by decide) rfl ?_
  intro p e s m args below meth c s₁ Bd hml ht hv
  obtain ⟨rfl, hsz, hP, hK, hD0, hX⟩ := hv
  have hx := Bd.exec
  have hb := Bd.bytes
  have hr := Bd.returns
  have hts := fun w h => atoms_spec (ws := w_G_rule) Bd.pre w (List.mem_cons_of_mem _ h)
  have hown : s.vm.findClass R_G = some m.cls := findClass_of_methodNamed Bd.named
  have hlocks := Bd.notSynchronized
  subst hsz
  have hD := hD0.self (sz := s.heap.size)
  generalize hAe : va_A (gW cI cZ ad B E C O n F L V) s.heap.size = A at hD hX ⊢
  have hA : ∀ q : Nat, s.heap.size ≤ q → A q := fun q h => by rw [← hAe]; exact Or.inr h
  have hS : va_S A s.heap s.heap [] := va_S.rf
  have hl := lv_entry ([.ref (ad 0), .int p0, .int p1, .int p2]) (n := 5) (Nat.le_of_ble_eq_true rfl)
  rw [lg_entry_eq]
  generalize (lg_sl ([.ref (ad 0), .int p0, .int p1, .int p2]) ++ List.replicate (5 - (lg_sl ([.ref (ad 0), .int p0, .int p1, .int p2])).length) Slot.unset).toArray = ls at hl ⊢
  have hl : lv_has ls 5 [(0, .ref (ad 0)), (1, .int p0), (2, .int p1), (3, .int p2)] := hl
  unfold t_G_rule at hf
  refine lv_iload_n hx hb d_G_rule_0 rfl (lv_at hl 1 rfl) ?_
  refine lv_iload_n hx hb d_G_rule_1 rfl (lv_at hl 2 rfl) ?_
  rcases fg_ot_some hf with hf | ⟨-, hf⟩
  · exact tx_c (vx_runS (As := [.int p0, .int p1]) (rest := []) ⟨hx, hb, hml, hown, hts⟩ (ct_G_needUnlikeNodes l hst f _ p0 p1 _ hf) (cwS 2 hts gs_G_36 rfl rfl rfl (by decide +kernel) ⟨Nat.le_of_ble_eq_true rfl, Nat.le_of_ble_eq_true rfl⟩) (tS_pre hS hA hX) rfl rfl hl.1 rfl (lv_room (Nat.le_of_ble_eq_true rfl)) d_G_rule_2 ⟨Nat.le_of_ble_eq_true rfl, Nat.le_of_ble_eq_true rfl⟩) hS hA ht hlocks (fun t hal hq hF => ⟨(), trivial, ⟨rfl, fg_keepP hP hq, va_K.moved hal hK, hD⟩, hF⟩)
  · obtain ⟨o1, hco1, hf⟩ := fg_ob_some hf
    refine fg_v0 (W.runS (As := [.int p0, .int p1]) (rest := []) ⟨hx, hb, hml, hown, hts⟩ (c_G_needUnlikeNodes l p0 p1 hco1) (cwS 2 hts gs_G_36 rfl rfl rfl (by decide +kernel) ⟨Nat.le_of_ble_eq_true rfl, Nat.le_of_ble_eq_true rfl⟩) preEq rfl rfl hl.1 rfl (lv_room (Nat.le_of_ble_eq_true rfl)) d_G_rule_2 ⟨Nat.le_of_ble_eq_true rfl, Nat.le_of_ble_eq_true rfl⟩) ?_
    refine lv_iload_n hx hb d_G_rule_5 rfl (lv_at hl 3 rfl) ?_
    refine lv_iconst (v := 1) hx hb d_G_rule_6 (by decide) ?_
    refine lv_icmp_lt (tgt := 16) hx hb d_G_rule_7 (by decide) (fun hc => ?_) (fun hc => ?_)
    · rw [if_pos hc] at hf
      cases hf
      exact tx_n (cd := 0) hx hb hst hown hts hX hS ht hlocks (hl.1.trans hml.symm) tx_ok0 (tx := "a cost is 1 to 9") (by decide +kernel) d_G_rule_16 d_G_rule_19 d_G_rule_20 d_G_rule_22 d_G_rule_25 ⟨Nat.le_of_ble_eq_true rfl, Nat.le_of_ble_eq_true rfl, Nat.le_of_ble_eq_true rfl, Nat.le_of_ble_eq_true rfl⟩ (fun t hal hq hF => ⟨(), trivial, ⟨rfl, fg_keepP hP hq, va_K.moved hal hK, hD⟩, hF⟩)
    · rw [if_neg hc] at hf
      refine lv_iload_n hx hb d_G_rule_10 rfl (lv_at hl 3 rfl) ?_
      refine lv_bipush (v := 9) hx hb d_G_rule_11 (by decide) ?_
      refine lv_icmp_le (tgt := 26) hx hb d_G_rule_13 (by decide) (fun hc => ?_) (fun hc => ?_)
      · rw [if_pos hc] at hf
        refine lv_aload_n hx hb d_G_rule_26 rfl (lv_at hl 0 rfl) ?_
        refine va_get (D := (dC, dI)) (ci := 0) (v := .int n) (C := R_G) (T := F_G) (N := 8) hx hb hts i_G hown hK hP 0 rfl rfl 4 (by decide) (hts _ fl_G_23) (fun _ h9 => h9) rfl d_G_rule_27 ?_
        refine lv_bipush (v := 90) hx hb d_G_rule_30 (by decide) ?_
        refine lv_icmp_lt (tgt := 45) hx hb d_G_rule_32 (by decide) (fun hc => ?_) (fun hc => ?_)
        · rw [if_pos hc] at hf
          cases hf
        · rw [if_neg hc] at hf
          cases hf
          exact tx_n (cd := 1) hx hb hst hown hts hX hS ht hlocks (hl.1.trans hml.symm) tx_ok1 (tx := "there are 90 rules") (by decide +kernel) d_G_rule_35 d_G_rule_38 d_G_rule_39 d_G_rule_41 d_G_rule_44 ⟨Nat.le_of_ble_eq_true rfl, Nat.le_of_ble_eq_true rfl, Nat.le_of_ble_eq_true rfl, Nat.le_of_ble_eq_true rfl⟩ (fun t hal hq hF => ⟨(), trivial, ⟨rfl, fg_keepP hP hq, va_K.moved hal hK, hD⟩, hF⟩)
      · rw [if_neg hc] at hf
        cases hf
        exact tx_n (cd := 0) hx hb hst hown hts hX hS ht hlocks (hl.1.trans hml.symm) tx_ok0 (tx := "a cost is 1 to 9") (by decide +kernel) d_G_rule_16 d_G_rule_19 d_G_rule_20 d_G_rule_22 d_G_rule_25 ⟨Nat.le_of_ble_eq_true rfl, Nat.le_of_ble_eq_true rfl, Nat.le_of_ble_eq_true rfl, Nat.le_of_ble_eq_true rfl⟩ (fun t hal hq hF => ⟨(), trivial, ⟨rfl, fg_keepP hP hq, va_K.moved hal hK, hD⟩, hF⟩)
abbrev rmT_G_passed : Room := { frames := 8, cells := 1, slots := 6, locals := 130 }
set_option maxHeartbeats 4000000 in
set_option maxRecDepth 100000 in
theorem ct_G_passed (l : Launch) (hst : l.stackTraces = false) (f : Nat → Nat) (dC : Nat → ClassId) (dI : Nat → Nat → Nat) (cI cZ : ClassId) (ad : Nat → Nat) (sz : Nat) (B : fg_A) (E : fg_A) (C : fg_A) (O : fg_A) (n : Int32) (F : fg_A) (L : fg_A) (V : fg_A) (p0 : Int32) (p1 : Int32) (o : Nat) (hf : t_G_passed B E O n p0 p1 = some o) : vx_Met l y_G_passed w_G_passed rmT_G_passed (tG_Pc f dC dI cI cZ ad sz B E C O n F L V [.ref (ad 0), .int p0, .int p1]) (tG_Q (va_A (gW cI cZ ad B E C O n F L V) sz)) (tG_X dC dI cI cZ ad (va_A (gW cI cZ ad B E C O n F L V) sz) B E C O n F L V o) 1 6 (va_A (gW cI cZ ad B E C O n F L V) sz) := by
  refine vx_ofW (cc := b_G_passed) (maxL := 7) (ret := (some .int)) (by decide) rfl ?_
  intro p e s m args below meth c s₁ Bd hml ht hv
  obtain ⟨rfl, hsz, hP, hK, hD0, hX⟩ := hv
  have hx := Bd.exec
  have hb := Bd.bytes
  have hr := Bd.returns
  have hts := fun w h => atoms_spec (ws := w_G_passed) Bd.pre w (List.mem_cons_of_mem _ h)
  have hown : s.vm.findClass R_G = some m.cls := findClass_of_methodNamed Bd.named
  have hlocks := Bd.notSynchronized
  subst hsz
  have hD := hD0.self (sz := s.heap.size)
  generalize hAe : va_A (gW cI cZ ad B E C O n F L V) s.heap.size = A at hD hX ⊢
  have hA : ∀ q : Nat, s.heap.size ≤ q → A q := fun q h => by rw [← hAe]; exact Or.inr h
  have hS : va_S A s.heap s.heap [] := va_S.rf
  have hl := lv_entry ([.ref (ad 0), .int p0, .int p1]) (n := 7) (Nat.le_of_ble_eq_true rfl)
  rw [lg_entry_eq]
  generalize (lg_sl ([.ref (ad 0), .int p0, .int p1]) ++ List.replicate (7 - (lg_sl ([.ref (ad 0), .int p0, .int p1])).length) Slot.unset).toArray = ls at hl ⊢
  have hl : lv_has ls 7 [(0, .ref (ad 0)), (1, .int p0), (2, .int p1)] := hl
  unfold t_G_passed at hf
  refine lv_iload_n hx hb d_G_passed_0 rfl (lv_at hl 1 rfl) ?_
  refine lv_iload_n hx hb d_G_passed_1 rfl (lv_at hl 2 rfl) ?_
  rcases fg_ot_some hf with hf | ⟨-, hf⟩
  · exact tx_c (vx_runS (As := [.int p0, .int p1]) (rest := []) ⟨hx, hb, hml, hown, hts⟩ (ct_G_needNodes l hst f _ p0 p1 _ hf) (cwS 2 hts gs_G_57 rfl rfl rfl (by decide +kernel) ⟨Nat.le_of_ble_eq_true rfl, Nat.le_of_ble_eq_true rfl⟩) (tS_pre hS hA hX) rfl rfl hl.1 rfl (lv_room (Nat.le_of_ble_eq_true rfl)) d_G_passed_2 ⟨Nat.le_of_ble_eq_true rfl, Nat.le_of_ble_eq_true rfl⟩) hS hA ht hlocks (fun t hal hq hF => ⟨(), trivial, ⟨rfl, fg_keepP hP hq, va_K.moved hal hK, hD⟩, hF⟩)
  · obtain ⟨o1, hco1, hf⟩ := fg_ob_some hf
    refine fg_v0 (W.runS (As := [.int p0, .int p1]) (rest := []) ⟨hx, hb, hml, hown, hts⟩ (c_G_needNodes l p0 p1 hco1) (cwS 2 hts gs_G_57 rfl rfl rfl (by decide +kernel) ⟨Nat.le_of_ble_eq_true rfl, Nat.le_of_ble_eq_true rfl⟩) preEq rfl rfl hl.1 rfl (lv_room (Nat.le_of_ble_eq_true rfl)) d_G_passed_2 ⟨Nat.le_of_ble_eq_true rfl, Nat.le_of_ble_eq_true rfl⟩) ?_
    cases hf
abbrev rmT_G_circle : Room := { frames := 7, cells := 1, slots := 6, locals := 109 }
set_option maxHeartbeats 4000000 in
set_option maxRecDepth 100000 in
theorem ct_G_circle (l : Launch) (hst : l.stackTraces = false) (f : Nat → Nat) (dC : Nat → ClassId) (dI : Nat → Nat → Nat) (cI cZ : ClassId) (ad : Nat → Nat) (sz : Nat) (B : fg_A) (E : fg_A) (C : fg_A) (O : fg_A) (n : Int32) (F : fg_A) (L : fg_A) (V : fg_A) (p0 : Int32) (o : Nat) (hf : t_G_circle B E O n p0 = some o) : vx_Met l y_G_circle w_G_circle rmT_G_circle (tG_Pc f dC dI cI cZ ad sz B E C O n F L V [.ref (ad 0), .int p0]) (tG_Q (va_A (gW cI cZ ad B E C O n F L V) sz)) (tG_X dC dI cI cZ ad (va_A (gW cI cZ ad B E C O n F L V) sz) B E C O n F L V o) 1 6 (va_A (gW cI cZ ad B E C O n F L V) sz) := by
  refine vx_ofW (cc := b_G_circle) (maxL := 2) (ret := (some .int)) (by decide) rfl ?_
  intro p e s m args below meth c s₁ Bd hml ht hv
  obtain ⟨rfl, hsz, hP, hK, hD0, hX⟩ := hv
  have hx := Bd.exec
  have hb := Bd.bytes
  have hr := Bd.returns
  have hts := fun w h => atoms_spec (ws := w_G_circle) Bd.pre w (List.mem_cons_of_mem _ h)
  have hown : s.vm.findClass R_G = some m.cls := findClass_of_methodNamed Bd.named
  have hlocks := Bd.notSynchronized
  subst hsz
  have hD := hD0.self (sz := s.heap.size)
  generalize hAe : va_A (gW cI cZ ad B E C O n F L V) s.heap.size = A at hD hX ⊢
  have hA : ∀ q : Nat, s.heap.size ≤ q → A q := fun q h => by rw [← hAe]; exact Or.inr h
  have hS : va_S A s.heap s.heap [] := va_S.rf
  have hl := lv_entry ([.ref (ad 0), .int p0]) (n := 2) (Nat.le_of_ble_eq_true rfl)
  rw [lg_entry_eq]
  generalize (lg_sl ([.ref (ad 0), .int p0]) ++ List.replicate (2 - (lg_sl ([.ref (ad 0), .int p0])).length) Slot.unset).toArray = ls at hl ⊢
  have hl : lv_has ls 2 [(0, .ref (ad 0)), (1, .int p0)] := hl
  unfold t_G_circle at hf
  refine lv_iload_n hx hb d_G_circle_0 rfl (lv_at hl 1 rfl) ?_
  rcases fg_ot_some hf with hf | ⟨-, hf⟩
  · exact tx_c (vx_runS (As := [.int p0]) (rest := []) ⟨hx, hb, hml, hown, hts⟩ (ct_G_needNode l hst f _ p0 _ hf) (cwS 1 hts gs_G_82 rfl rfl rfl (by decide +kernel) ⟨Nat.le_of_ble_eq_true rfl, Nat.le_of_ble_eq_true rfl⟩) (tS_pre hS hA hX) rfl rfl hl.1 rfl (lv_room (Nat.le_of_ble_eq_true rfl)) d_G_circle_1 ⟨Nat.le_of_ble_eq_true rfl, Nat.le_of_ble_eq_true rfl⟩) hS hA ht hlocks (fun t hal hq hF => ⟨(), trivial, ⟨rfl, fg_keepP hP hq, va_K.moved hal hK, hD⟩, hF⟩)
  · obtain ⟨o1, hco1, hf⟩ := fg_ob_some hf
    refine fg_v0 (W.runS (As := [.int p0]) (rest := []) ⟨hx, hb, hml, hown, hts⟩ (c_G_needNode l p0 hco1) (cwS 1 hts gs_G_82 rfl rfl rfl (by decide +kernel) ⟨Nat.le_of_ble_eq_true rfl, Nat.le_of_ble_eq_true rfl⟩) preEq rfl rfl hl.1 rfl (lv_room (Nat.le_of_ble_eq_true rfl)) d_G_circle_1 ⟨Nat.le_of_ble_eq_true rfl, Nat.le_of_ble_eq_true rfl⟩) ?_
    cases hf
abbrev rmT_G_cut : Room := { frames := 9, cells := 1, slots := 6, locals := 151 }
set_option maxHeartbeats 4000000 in
set_option maxRecDepth 100000 in
theorem ct_G_cut (l : Launch) (hst : l.stackTraces = false) (f : Nat → Nat) (dC : Nat → ClassId) (dI : Nat → Nat → Nat) (cI cZ : ClassId) (ad : Nat → Nat) (sz : Nat) (B : fg_A) (E : fg_A) (C : fg_A) (O : fg_A) (n : Int32) (F : fg_A) (L : fg_A) (V : fg_A) (p0 : Int32) (p1 : Int32) (o : Nat) (hf : t_G_cut B E C O n L V p0 p1 = some o) : vx_Met l y_G_cut w_G_cut rmT_G_cut (tG_Pc f dC dI cI cZ ad sz B E C O n F L V [.ref (ad 0), .int p0, .int p1]) (tG_Q (va_A (gW cI cZ ad B E C O n F L V) sz)) (tG_X dC dI cI cZ ad (va_A (gW cI cZ ad B E C O n F L V) sz) B E C O n F L V o) 1 6 (va_A (gW cI cZ ad B E C O n F L V) sz) := by
  refine vx_ofW (cc := b_G_cut) (maxL := 6) (ret := (some .int)) (by decide) rfl ?_
  intro p e s m args below meth c s₁ Bd hml ht hv
  obtain ⟨rfl, hsz, hP, hK, hD0, hX⟩ := hv
  have hx := Bd.exec
  have hb := Bd.bytes
  have hr := Bd.returns
  have hts := fun w h => atoms_spec (ws := w_G_cut) Bd.pre w (List.mem_cons_of_mem _ h)
  have hown : s.vm.findClass R_G = some m.cls := findClass_of_methodNamed Bd.named
  have hlocks := Bd.notSynchronized
  subst hsz
  have hD := hD0.self (sz := s.heap.size)
  generalize hAe : va_A (gW cI cZ ad B E C O n F L V) s.heap.size = A at hD hX ⊢
  have hA : ∀ q : Nat, s.heap.size ≤ q → A q := fun q h => by rw [← hAe]; exact Or.inr h
  have hS : va_S A s.heap s.heap [] := va_S.rf
  have hl := lv_entry ([.ref (ad 0), .int p0, .int p1]) (n := 6) (Nat.le_of_ble_eq_true rfl)
  rw [lg_entry_eq]
  generalize (lg_sl ([.ref (ad 0), .int p0, .int p1]) ++ List.replicate (6 - (lg_sl ([.ref (ad 0), .int p0, .int p1])).length) Slot.unset).toArray = ls at hl ⊢
  have hl : lv_has ls 6 [(0, .ref (ad 0)), (1, .int p0), (2, .int p1)] := hl
  unfold t_G_cut at hf
  refine lv_iload_n hx hb d_G_cut_0 rfl (lv_at hl 1 rfl) ?_
  refine lv_iload_n hx hb d_G_cut_1 rfl (lv_at hl 2 rfl) ?_
  rcases fg_ot_some hf with hf | ⟨-, hf⟩
  · exact tx_c (vx_runS (As := [.int p0, .int p1]) (rest := []) ⟨hx, hb, hml, hown, hts⟩ (ct_G_needUnlikeNodes l hst f _ p0 p1 _ hf) (cwS 2 hts gs_G_36 rfl rfl rfl (by decide +kernel) ⟨Nat.le_of_ble_eq_true rfl, Nat.le_of_ble_eq_true rfl⟩) (tS_pre hS hA hX) rfl rfl hl.1 rfl (lv_room (Nat.le_of_ble_eq_true rfl)) d_G_cut_2 ⟨Nat.le_of_ble_eq_true rfl, Nat.le_of_ble_eq_true rfl⟩) hS hA ht hlocks (fun t hal hq hF => ⟨(), trivial, ⟨rfl, fg_keepP hP hq, va_K.moved hal hK, hD⟩, hF⟩)
  · obtain ⟨o1, hco1, hf⟩ := fg_ob_some hf
    refine fg_v0 (W.runS (As := [.int p0, .int p1]) (rest := []) ⟨hx, hb, hml, hown, hts⟩ (c_G_needUnlikeNodes l p0 p1 hco1) (cwS 2 hts gs_G_36 rfl rfl rfl (by decide +kernel) ⟨Nat.le_of_ble_eq_true rfl, Nat.le_of_ble_eq_true rfl⟩) preEq rfl rfl hl.1 rfl (lv_room (Nat.le_of_ble_eq_true rfl)) d_G_cut_2 ⟨Nat.le_of_ble_eq_true rfl, Nat.le_of_ble_eq_true rfl⟩) ?_
    cases hf
abbrev rmT_G_cutRule : Room := { frames := 9, cells := 1, slots := 6, locals := 151 }
set_option maxHeartbeats 4000000 in
set_option maxRecDepth 100000 in
theorem ct_G_cutRule (l : Launch) (hst : l.stackTraces = false) (f : Nat → Nat) (dC : Nat → ClassId) (dI : Nat → Nat → Nat) (cI cZ : ClassId) (ad : Nat → Nat) (sz : Nat) (B : fg_A) (E : fg_A) (C : fg_A) (O : fg_A) (n : Int32) (F : fg_A) (L : fg_A) (V : fg_A) (p0 : Int32) (p1 : Int32) (p2 : Int32) (o : Nat) (hf : t_G_cutRule B E C O n L V p0 p1 p2 = some o) : vx_Met l y_G_cutRule w_G_cutRule rmT_G_cutRule (tG_Pc f dC dI cI cZ ad sz B E C O n F L V [.ref (ad 0), .int p0, .int p1, .int p2]) (tG_Q (va_A (gW cI cZ ad B E C O n F L V) sz)) (tG_X dC dI cI cZ ad (va_A (gW cI cZ ad B E C O n F L V) sz) B E C O n F L V o) 1 6 (va_A (gW cI cZ ad B E C O n F L V) sz) := by
  refine vx_ofW (cc := b_G_cutRule) (maxL := 7) (ret := (some .int)) (by decide) rfl ?_
  intro p e s m args below meth c s₁ Bd hml ht hv
  obtain ⟨rfl, hsz, hP, hK, hD0, hX⟩ := hv
  have hx := Bd.exec
  have hb := Bd.bytes
  have hr := Bd.returns
  have hts := fun w h => atoms_spec (ws := w_G_cutRule) Bd.pre w (List.mem_cons_of_mem _ h)
  have hown : s.vm.findClass R_G = some m.cls := findClass_of_methodNamed Bd.named
  have hlocks := Bd.notSynchronized
  subst hsz
  have hD := hD0.self (sz := s.heap.size)
  generalize hAe : va_A (gW cI cZ ad B E C O n F L V) s.heap.size = A at hD hX ⊢
  have hA : ∀ q : Nat, s.heap.size ≤ q → A q := fun q h => by rw [← hAe]; exact Or.inr h
  have hS : va_S A s.heap s.heap [] := va_S.rf
  have hl := lv_entry ([.ref (ad 0), .int p0, .int p1, .int p2]) (n := 7) (Nat.le_of_ble_eq_true rfl)
  rw [lg_entry_eq]
  generalize (lg_sl ([.ref (ad 0), .int p0, .int p1, .int p2]) ++ List.replicate (7 - (lg_sl ([.ref (ad 0), .int p0, .int p1, .int p2])).length) Slot.unset).toArray = ls at hl ⊢
  have hl : lv_has ls 7 [(0, .ref (ad 0)), (1, .int p0), (2, .int p1), (3, .int p2)] := hl
  unfold t_G_cutRule at hf
  refine lv_iload_n hx hb d_G_cutRule_0 rfl (lv_at hl 1 rfl) ?_
  refine lv_iload_n hx hb d_G_cutRule_1 rfl (lv_at hl 2 rfl) ?_
  rcases fg_ot_some hf with hf | ⟨-, hf⟩
  · exact tx_c (vx_runS (As := [.int p0, .int p1]) (rest := []) ⟨hx, hb, hml, hown, hts⟩ (ct_G_needUnlikeNodes l hst f _ p0 p1 _ hf) (cwS 2 hts gs_G_36 rfl rfl rfl (by decide +kernel) ⟨Nat.le_of_ble_eq_true rfl, Nat.le_of_ble_eq_true rfl⟩) (tS_pre hS hA hX) rfl rfl hl.1 rfl (lv_room (Nat.le_of_ble_eq_true rfl)) d_G_cutRule_2 ⟨Nat.le_of_ble_eq_true rfl, Nat.le_of_ble_eq_true rfl⟩) hS hA ht hlocks (fun t hal hq hF => ⟨(), trivial, ⟨rfl, fg_keepP hP hq, va_K.moved hal hK, hD⟩, hF⟩)
  · obtain ⟨o1, hco1, hf⟩ := fg_ob_some hf
    refine fg_v0 (W.runS (As := [.int p0, .int p1]) (rest := []) ⟨hx, hb, hml, hown, hts⟩ (c_G_needUnlikeNodes l p0 p1 hco1) (cwS 2 hts gs_G_36 rfl rfl rfl (by decide +kernel) ⟨Nat.le_of_ble_eq_true rfl, Nat.le_of_ble_eq_true rfl⟩) preEq rfl rfl hl.1 rfl (lv_room (Nat.le_of_ble_eq_true rfl)) d_G_cutRule_2 ⟨Nat.le_of_ble_eq_true rfl, Nat.le_of_ble_eq_true rfl⟩) ?_
    refine lv_iload_n hx hb d_G_cutRule_5 rfl (lv_at hl 3 rfl) ?_
    refine lv_if_ge (tgt := 19) hx hb d_G_cutRule_6 (by decide) (fun hc => ?_) (fun hc => ?_)
    · rw [if_pos hc] at hf
      cases hf
    · rw [if_neg hc] at hf
      cases hf
      exact tx_n (cd := 0) hx hb hst hown hts hX hS ht hlocks (hl.1.trans hml.symm) tx_ok0 (tx := "k is below 0") (by decide +kernel) d_G_cutRule_9 d_G_cutRule_12 d_G_cutRule_13 d_G_cutRule_15 d_G_cutRule_18 ⟨Nat.le_of_ble_eq_true rfl, Nat.le_of_ble_eq_true rfl, Nat.le_of_ble_eq_true rfl, Nat.le_of_ble_eq_true rfl⟩ (fun t hal hq hF => ⟨(), trivial, ⟨rfl, fg_keepP hP hq, va_K.moved hal hK, hD⟩, hF⟩)
abbrev rmT_G_left : Room := { frames := 9, cells := 1, slots := 6, locals := 151 }
set_option maxHeartbeats 4000000 in
set_option maxRecDepth 100000 in
theorem ct_G_left (l : Launch) (hst : l.stackTraces = false) (f : Nat → Nat) (dC : Nat → ClassId) (dI : Nat → Nat → Nat) (cI cZ : ClassId) (ad : Nat → Nat) (sz : Nat) (B : fg_A) (E : fg_A) (C : fg_A) (O : fg_A) (n : Int32) (F : fg_A) (L : fg_A) (V : fg_A) (p0 : Int32) (p1 : Int32) (o : Nat) (hf : t_G_left B E C O n L V p0 p1 = some o) : vx_Met l y_G_left w_G_left rmT_G_left (tG_Pc f dC dI cI cZ ad sz B E C O n F L V [.ref (ad 0), .int p0, .int p1]) (tG_Q (va_A (gW cI cZ ad B E C O n F L V) sz)) (tG_X dC dI cI cZ ad (va_A (gW cI cZ ad B E C O n F L V) sz) B E C O n F L V o) 1 6 (va_A (gW cI cZ ad B E C O n F L V) sz) := by
  refine vx_ofW (cc := b_G_left) (maxL := 3) (ret := (some .int)) (by decide) rfl ?_
  intro p e s m args below meth c s₁ Bd hml ht hv
  obtain ⟨rfl, hsz, hP, hK, hD0, hX⟩ := hv
  have hx := Bd.exec
  have hb := Bd.bytes
  have hr := Bd.returns
  have hts := fun w h => atoms_spec (ws := w_G_left) Bd.pre w (List.mem_cons_of_mem _ h)
  have hown : s.vm.findClass R_G = some m.cls := findClass_of_methodNamed Bd.named
  have hlocks := Bd.notSynchronized
  subst hsz
  have hD := hD0.self (sz := s.heap.size)
  generalize hAe : va_A (gW cI cZ ad B E C O n F L V) s.heap.size = A at hD hX ⊢
  have hA : ∀ q : Nat, s.heap.size ≤ q → A q := fun q h => by rw [← hAe]; exact Or.inr h
  have hS : va_S A s.heap s.heap [] := va_S.rf
  have hl := lv_entry ([.ref (ad 0), .int p0, .int p1]) (n := 3) (Nat.le_of_ble_eq_true rfl)
  rw [lg_entry_eq]
  generalize (lg_sl ([.ref (ad 0), .int p0, .int p1]) ++ List.replicate (3 - (lg_sl ([.ref (ad 0), .int p0, .int p1])).length) Slot.unset).toArray = ls at hl ⊢
  have hl : lv_has ls 3 [(0, .ref (ad 0)), (1, .int p0), (2, .int p1)] := hl
  unfold t_G_left at hf
  refine lv_iload_n hx hb d_G_left_0 rfl (lv_at hl 1 rfl) ?_
  refine lv_iload_n hx hb d_G_left_1 rfl (lv_at hl 2 rfl) ?_
  rcases fg_ot_some hf with hf | ⟨-, hf⟩
  · exact tx_c (vx_runS (As := [.int p0, .int p1]) (rest := []) ⟨hx, hb, hml, hown, hts⟩ (ct_G_needUnlikeNodes l hst f _ p0 p1 _ hf) (cwS 2 hts gs_G_36 rfl rfl rfl (by decide +kernel) ⟨Nat.le_of_ble_eq_true rfl, Nat.le_of_ble_eq_true rfl⟩) (tS_pre hS hA hX) rfl rfl hl.1 rfl (lv_room (Nat.le_of_ble_eq_true rfl)) d_G_left_2 ⟨Nat.le_of_ble_eq_true rfl, Nat.le_of_ble_eq_true rfl⟩) hS hA ht hlocks (fun t hal hq hF => ⟨(), trivial, ⟨rfl, fg_keepP hP hq, va_K.moved hal hK, hD⟩, hF⟩)
  · obtain ⟨o1, hco1, hf⟩ := fg_ob_some hf
    refine fg_v0 (W.runS (As := [.int p0, .int p1]) (rest := []) ⟨hx, hb, hml, hown, hts⟩ (c_G_needUnlikeNodes l p0 p1 hco1) (cwS 2 hts gs_G_36 rfl rfl rfl (by decide +kernel) ⟨Nat.le_of_ble_eq_true rfl, Nat.le_of_ble_eq_true rfl⟩) preEq rfl rfl hl.1 rfl (lv_room (Nat.le_of_ble_eq_true rfl)) d_G_left_2 ⟨Nat.le_of_ble_eq_true rfl, Nat.le_of_ble_eq_true rfl⟩) ?_
    cases hf
