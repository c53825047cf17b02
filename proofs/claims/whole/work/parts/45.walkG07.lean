set_option maxHeartbeats 4000000 in
set_option maxRecDepth 100000 in
theorem c_G_circleOf (l : Launch) (dC : Nat → ClassId) (dI : Nat → Nat → Nat) (cI cZ : ClassId) (ad : Nat → Nat) (sz : Nat) (B : fg_A) (E : fg_A) (C : fg_A) (O : fg_A) (n : Int32) (F : fg_A) (L : fg_A) (V : fg_A) (p0 : Int32) (o : Int32) (hf : f_G_circleOf B E O n p0 = some o) : Met l y_G_circleOf w_G_circleOf rm_G_circleOf (gW_Pc dC dI cI cZ ad sz B E C O n F L V [.ref (ad 0), .int p0]) (gW_Qi dC dI cI cZ ad (va_A (gW cI cZ ad B E C O n F L V) sz) B E C O n F L V o) 0 0 (va_A (gW cI cZ ad B E C O n F L V) sz) := by
  refine Met.ofW (cc := b_G_circleOf) (maxL := 2) (ret := (some .int)) (by decide) rfl ?_
  intro p e s m args below meth c s₁ Bd hml hv
  obtain ⟨rfl, hsz, hP, hK, hD0⟩ := hv
  have hx := Bd.exec
  have hb := Bd.bytes
  have hr := Bd.returns
  have hts := fun w h => atoms_spec (ws := w_G_circleOf) Bd.pre w (List.mem_cons_of_mem _ h)
  have hown : s.vm.findClass R_G = some m.cls := findClass_of_methodNamed Bd.named
  have hlocks := Bd.notSynchronized
  subst hsz
  have hD := hD0.self (sz := s.heap.size)
  generalize hAe : va_A (gW cI cZ ad B E C O n F L V) s.heap.size = A at hD ⊢
  have hA : ∀ q : Nat, s.heap.size ≤ q → A q := fun q h => by rw [← hAe]; exact Or.inr h
  have hS : va_S A s.heap s.heap [] := va_S.rf
  have hl := lv_entry ([.ref (ad 0), .int p0]) (n := 2) (Nat.le_of_ble_eq_true rfl)
  rw [lg_entry_eq]
  generalize (lg_sl ([.ref (ad 0), .int p0]) ++ List.replicate (2 - (lg_sl ([.ref (ad 0), .int p0])).length) Slot.unset).toArray = ls at hl ⊢
  have hl : lv_has ls 2 [(0, .ref (ad 0)), (1, .int p0)] := hl
  have hE : ∀ (pc : Nat) (H : Heap) (locs : List Loc) (ls : Array Slot), va_P (dC, dI) classes (gW cI cZ ad B E C O n F L V) H → va_D A (gW cI cZ ad B E C O n F L V) → va_S A s.heap H locs → decode b_G_circleOf pc = .ok (.ireturn, 1) → W p l e (headSpec w_G_circleOf rm_G_circleOf).room s m ([.ref (ad 0), .int p0] : List Value).toArray below meth c H locs 0 0 (MQ below (gW_Qi dC dI cI cZ ad A B E C O n F L V o) ([.ref (ad 0), .int p0] : List Value).toArray s 0 0 A) (F0 m pc ls [.int o]) := fun pc H locs ls hP hD hS hd => W.iret (v := o) hx hb hr (fun t ht hW => ⟨⟨o, (), rfl, rfl, by rw [ht]; exact hP, va_K.moved hW.alike hK, hD⟩, hS.F ht⟩) hS.2.2 hd
  unfold f_G_circleOf at hf
  refine lv_aload_n hx hb d_G_circleOf_0 rfl (lv_at hl 0 rfl) ?_
  refine lv_aload_n hx hb d_G_circleOf_1 rfl (lv_at hl 0 rfl) ?_
  refine va_get (D := (dC, dI)) (ci := 0) (v := .ref (ad 1)) (C := R_G) (T := F_G) (N := 8) hx hb hts i_G hown hK hP 0 rfl rfl 0 (by decide) (hts _ fl_G_9) (fun _ h9 => h9) rfl d_G_circleOf_2 ?_
  refine lv_aload_n hx hb d_G_circleOf_5 rfl (lv_at hl 0 rfl) ?_
  refine va_get (D := (dC, dI)) (ci := 0) (v := .ref (ad 2)) (C := R_G) (T := F_G) (N := 8) hx hb hts i_G hown hK hP 0 rfl rfl 1 (by decide) (hts _ fl_G_13) (fun _ h9 => h9) rfl d_G_circleOf_6 ?_
  refine lv_iload_n hx hb d_G_circleOf_9 rfl (lv_at hl 1 rfl) ?_
  refine lv_iconst (v := 0) hx hb d_G_circleOf_10 (by decide) ?_
  obtain ⟨o1, hco1, hf⟩ := fg_ob_some hf
  refine fgG_i (va_runV (As := [.ref (ad 1), .ref (ad 2), .int p0, .int 0]) (rest := []) ⟨hx, hb, hml, hown, hts⟩ (c_G_reach_fwd l dC dI cI cZ ad _ B E C O n F L V p0 0 o1 hco1) (cwV 4 hts gv_G_70 rfl rfl rfl (by decide +kernel) ⟨Nat.le_of_ble_eq_true rfl, Nat.le_of_ble_eq_true rfl⟩) (gW_pre hK hP hD) rfl rfl hl.1 rfl (lv_room (Nat.le_of_ble_eq_true rfl)) d_G_circleOf_11 ⟨Nat.le_of_ble_eq_true rfl, Nat.le_of_ble_eq_true rfl⟩) hP hD hS hA (fun H locs hP hD hS => ?_)
  refine lv_aload_n hx hb d_G_circleOf_14 rfl (lv_at hl 0 rfl) ?_
  refine lv_aload_n hx hb d_G_circleOf_15 rfl (lv_at hl 0 rfl) ?_
  refine va_get (D := (dC, dI)) (ci := 0) (v := .ref (ad 2)) (C := R_G) (T := F_G) (N := 8) hx hb hts i_G hown hK hP 0 rfl rfl 1 (by decide) (hts _ fl_G_13) (fun _ h9 => h9) rfl d_G_circleOf_16 ?_
  refine lv_aload_n hx hb d_G_circleOf_19 rfl (lv_at hl 0 rfl) ?_
  refine va_get (D := (dC, dI)) (ci := 0) (v := .ref (ad 1)) (C := R_G) (T := F_G) (N := 8) hx hb hts i_G hown hK hP 0 rfl rfl 0 (by decide) (hts _ fl_G_9) (fun _ h9 => h9) rfl d_G_circleOf_20 ?_
  refine lv_iload_n hx hb d_G_circleOf_23 rfl (lv_at hl 1 rfl) ?_
  refine lv_iconst (v := 0) hx hb d_G_circleOf_24 (by decide) ?_
  obtain ⟨o2, hco2, hf⟩ := fg_ob_some hf
  refine fgG_i (va_runV (As := [.ref (ad 2), .ref (ad 1), .int p0, .int 0]) (rest := [.int o1]) ⟨hx, hb, hml, hown, hts⟩ (c_G_reach_bwd l dC dI cI cZ ad _ B E C O n F L V p0 0 o2 hco2) (cwV 4 hts gv_G_70 rfl rfl rfl (by decide +kernel) ⟨Nat.le_of_ble_eq_true rfl, Nat.le_of_ble_eq_true rfl⟩) (gW_pre hK hP hD) rfl rfl hl.1 rfl (lv_room (Nat.le_of_ble_eq_true rfl)) d_G_circleOf_25 ⟨Nat.le_of_ble_eq_true rfl, Nat.le_of_ble_eq_true rfl⟩) hP hD hS hA (fun H locs hP hD hS => ?_)
  refine lv_iand hx hb d_G_circleOf_28 ?_
  cases hf
  exact hE _ _ _ _ hP hD hS d_G_circleOf_29
set_option maxHeartbeats 4000000 in
set_option maxRecDepth 100000 in
theorem w_G_spread_11 {p : Program} {l : Launch} {e : Env} {s : State} {m : MethodId} {args : Array Value} {below : List Frame} {meth : Method} {c : Code} {Q : State → Prop} {A : Nat → Prop} {dC : Nat → ClassId} {dI : Nat → Nat → Nat} {cI cZ : ClassId} {ad : Nat → Nat} (hx : p.tables.exec = Jvm.exec) (hb : c.code = b_G_spread) (hml : c.maxLocals = 6) (hown : s.vm.findClass R_G = some m.cls) (hts : ∀ w ∈ gw, w.before args s = true) (hK : va_K (dC, dI) classes (gT cI cZ) s) (hA : ∀ q : Nat, s.heap.size ≤ q → A q) (x2 : Int32) (B : fg_A) (E : fg_A) (C : fg_A) (O : fg_A) (n : Int32) (F : fg_A) (L : fg_A) :
    ∀ (k : Nat) (x3 : Int32) (x4 : Int32) (x5 : Int32) (V : fg_A) (o : Int32 × fg_A), f_G_spread_11 B E C O n L x2 k x3 x4 x5 V = some o → ∀ (H : Heap) (locs : List Loc) (ls : Array Slot), va_P (dC, dI) classes (gW cI cZ ad B E C O n F L V) H → va_D A (gW cI cZ ad B E C O n F L V) → va_S A s.heap H locs → lv_has ls 6 [(0, .ref (ad 0)), (2, .int x2), (3, .int x3), (4, .int x4), (5, .int x5)] →
    (∀ (H : Heap) (locs : List Loc) (ls : Array Slot), va_P (dC, dI) classes (gW cI cZ ad B E C O n F L o.2) H → va_D A (gW cI cZ ad B E C O n F L o.2) → va_S A s.heap H locs → lv_has ls 6 [(3, .int o.1)] → W p l e (headSpec w_G_spread rm_G_spread).room s m args below meth c H locs 0 0 Q (F0 m 47 ls [])) → W p l e (headSpec w_G_spread rm_G_spread).room s m args below meth c H locs 0 0 Q (F0 m 11 ls []) := by
  intro k
  induction k with
  | zero =>
    intro x3 x4 x5 V o hf
    exact absurd (show none = some o from hf) (by simp)
  | succ k ih =>
    intro x3 x4 x5 V o hf H locs ls hP hD hS hl hk
    rw [f_G_spread_11] at hf
    refine lv_iload hx hb d_G_spread_11 (lv_at hl 4 rfl) ?_
    refine lv_bipush (v := 28) hx hb d_G_spread_13 (by decide) ?_
    refine lv_icmp_ge (tgt := 47) hx hb d_G_spread_15 (by decide) (fun hc => ?_) (fun hc => ?_)
    · rw [if_pos hc] at hf
      cases hf
      exact hk _ _ _ hP hD hS (lv_sub hl [2] rfl)
    · rw [if_neg hc] at hf
      refine lv_iload_n hx hb d_G_spread_18 rfl (lv_at hl 2 rfl) ?_
      refine lv_iload hx hb d_G_spread_19 (lv_at hl 3 rfl) ?_
      refine lv_icmp_eq (tgt := 47) hx hb d_G_spread_21 (by decide) (fun hc => ?_) (fun hc => ?_)
      · rw [if_pos hc] at hf
        cases hf
        exact hk _ _ _ hP hD hS (lv_sub hl [2] rfl)
      · rw [if_neg hc] at hf
        refine lv_iload_n hx hb d_G_spread_24 rfl (lv_at hl 2 rfl) ?_
        refine lv_iload_n hx hb d_G_spread_25 rfl (lv_at hl 1 rfl) ?_
        obtain ⟨o1, hco1, hf⟩ := fg_ob_some hf
        refine fg_r0 (W.runS (As := [.int x3, .int x2]) (rest := []) ⟨hx, hb, hml, hown, hts⟩ (c_G_has l x3 x2 o1 hco1) (cwS 2 hts gs_G_74 rfl rfl rfl (by decide +kernel) ⟨Nat.le_of_ble_eq_true rfl, Nat.le_of_ble_eq_true rfl⟩) preEq rfl rfl hl.1 rfl (lv_room (Nat.le_of_ble_eq_true rfl)) d_G_spread_26 ⟨Nat.le_of_ble_eq_true rfl, Nat.le_of_ble_eq_true rfl⟩) ?_
        refine lv_if_ne (tgt := 47) hx hb d_G_spread_29 (by decide) (fun hc => ?_) (fun hc => ?_)
        · rw [if_neg hc] at hf
          cases hf
          exact hk _ _ _ hP hD hS (lv_sub hl [2] rfl)
        · rw [if_pos hc] at hf
          refine lv_iload_n hx hb d_G_spread_32 rfl (lv_at hl 2 rfl) ?_
          refine lv_istore (lv' := [(4, .int x3), (0, .ref (ad 0)), (2, .int x2), (3, .int x3), (5, .int x5)]) hx hb d_G_spread_33 hl (by decide) rfl (fun ls hl => ?_)
          refine lv_aload_n hx hb d_G_spread_35 rfl (lv_at hl 1 rfl) ?_
          refine lv_iload_n hx hb d_G_spread_36 rfl (lv_at hl 3 rfl) ?_
          obtain ⟨o2, hco2, hf⟩ := fg_ob_some hf
          refine fgG_i (va_runV (As := [.int x3]) (rest := []) ⟨hx, hb, hml, hown, hts⟩ (c_G_spreadByEachRule l dC dI cI cZ ad _ B E C O n F L V x3 o2 hco2) (cwV 1 hts gv_G_113 rfl rfl rfl (by decide +kernel) ⟨Nat.le_of_ble_eq_true rfl, Nat.le_of_ble_eq_true rfl⟩) (gW_pre hK hP hD) rfl rfl hl.1 rfl (lv_room (Nat.le_of_ble_eq_true rfl)) d_G_spread_37 ⟨Nat.le_of_ble_eq_true rfl, Nat.le_of_ble_eq_true rfl⟩) hP hD hS hA (fun H locs hP hD hS => ?_)
          refine lv_istore_n (lv' := [(3, .int o2.1), (4, .int x3), (0, .ref (ad 0)), (2, .int x2), (5, .int x5)]) hx hb d_G_spread_40 rfl hl (by decide) rfl (fun ls hl => ?_)
          refine lv_iinc (v := x5 + 1) (lv' := [(5, .int (x5 + 1)), (3, .int o2.1), (4, .int x3), (0, .ref (ad 0)), (2, .int x2)]) hx hb d_G_spread_41 hl (k := 4) rfl rfl (by decide) rfl (fun ls hl => ?_)
          refine lv_goto (tgt := 11) hx hb d_G_spread_44 (by decide) ?_
          exact ih o2.1 x3 (x5 + 1) o2.2 _ hf _ _ _ hP hD hS (lv_sub hl [3, 4, 1, 2, 0] rfl) hk
set_option maxHeartbeats 4000000 in
set_option maxRecDepth 100000 in
theorem c_G_spread (l : Launch) (dC : Nat → ClassId) (dI : Nat → Nat → Nat) (cI cZ : ClassId) (ad : Nat → Nat) (sz : Nat) (B : fg_A) (E : fg_A) (C : fg_A) (O : fg_A) (n : Int32) (F : fg_A) (L : fg_A) (V : fg_A) (p0 : Int32) (p1 : Int32) (o : Int32 × fg_A) (hf : f_G_spread B E C O n L V p0 p1 = some o) : Met l y_G_spread w_G_spread rm_G_spread (gW_Pc dC dI cI cZ ad sz B E C O n F L V [.ref (ad 0), .int p0, .int p1]) (gW_Qi dC dI cI cZ ad (va_A (gW cI cZ ad B E C O n F L V) sz) B E C O n F L o.2 o.1) 0 0 (va_A (gW cI cZ ad B E C O n F L V) sz) := by
  refine Met.ofW (cc := b_G_spread) (maxL := 6) (ret := (some .int)) (by decide) rfl ?_
  intro p e s m args below meth c s₁ Bd hml hv
  obtain ⟨rfl, hsz, hP, hK, hD0⟩ := hv
  have hx := Bd.exec
  have hb := Bd.bytes
  have hr := Bd.returns
  have hts := fun w h => atoms_spec (ws := w_G_spread) Bd.pre w (List.mem_cons_of_mem _ h)
  have hown : s.vm.findClass R_G = some m.cls := findClass_of_methodNamed Bd.named
  have hlocks := Bd.notSynchronized
  subst hsz
  have hD := hD0.self (sz := s.heap.size)
  generalize hAe : va_A (gW cI cZ ad B E C O n F L V) s.heap.size = A at hD ⊢
  have hA : ∀ q : Nat, s.heap.size ≤ q → A q := fun q h => by rw [← hAe]; exact Or.inr h
  have hS : va_S A s.heap s.heap [] := va_S.rf
  have hl := lv_entry ([.ref (ad 0), .int p0, .int p1]) (n := 6) (Nat.le_of_ble_eq_true rfl)
  rw [lg_entry_eq]
  generalize (lg_sl ([.ref (ad 0), .int p0, .int p1]) ++ List.replicate (6 - (lg_sl ([.ref (ad 0), .int p0, .int p1])).length) Slot.unset).toArray = ls at hl ⊢
  have hl : lv_has ls 6 [(0, .ref (ad 0)), (1, .int p0), (2, .int p1)] := hl
  have hE : ∀ (pc : Nat) (H : Heap) (locs : List Loc) (ls : Array Slot), va_P (dC, dI) classes (gW cI cZ ad B E C O n F L o.2) H → va_D A (gW cI cZ ad B E C O n F L o.2) → va_S A s.heap H locs → decode b_G_spread pc = .ok (.ireturn, 1) → W p l e (headSpec w_G_spread rm_G_spread).room s m ([.ref (ad 0), .int p0, .int p1] : List Value).toArray below meth c H locs 0 0 (MQ below (gW_Qi dC dI cI cZ ad A B E C O n F L o.2 o.1) ([.ref (ad 0), .int p0, .int p1] : List Value).toArray s 0 0 A) (F0 m pc ls [.int o.1]) := fun pc H locs ls hP hD hS hd => W.iret (v := o.1) hx hb hr (fun t ht hW => ⟨⟨o.1, (), rfl, rfl, by rw [ht]; exact hP, va_K.moved hW.alike hK, hD⟩, hS.F ht⟩) hS.2.2 hd
  unfold f_G_spread at hf
  refine lv_iload_n hx hb d_G_spread_0 rfl (lv_at hl 1 rfl) ?_
  obtain ⟨o1, hco1, hf⟩ := fg_ob_some hf
  refine fg_r0 (W.runS (As := [.int p0]) (rest := []) ⟨hx, hb, hml, hown, hts⟩ (c_G_bit l p0 o1 hco1) (cwS 1 hts gs_G_78 rfl rfl rfl (by decide +kernel) ⟨Nat.le_of_ble_eq_true rfl, Nat.le_of_ble_eq_true rfl⟩) preEq rfl rfl hl.1 rfl (lv_room (Nat.le_of_ble_eq_true rfl)) d_G_spread_1 ⟨Nat.le_of_ble_eq_true rfl, Nat.le_of_ble_eq_true rfl⟩) ?_
  refine lv_istore_n (lv' := [(3, .int o1), (0, .ref (ad 0)), (1, .int p0), (2, .int p1)]) hx hb d_G_spread_4 rfl hl (by decide) rfl (fun ls hl => ?_)
  refine lv_iconst (v := 0) hx hb d_G_spread_5 (by decide) ?_
  refine lv_istore (lv' := [(4, .int 0), (3, .int o1), (0, .ref (ad 0)), (1, .int p0), (2, .int p1)]) hx hb d_G_spread_6 hl (by decide) rfl (fun ls hl => ?_)
  refine lv_iconst (v := 0) hx hb d_G_spread_8 (by decide) ?_
  refine lv_istore (lv' := [(5, .int 0), (4, .int 0), (3, .int o1), (0, .ref (ad 0)), (1, .int p0), (2, .int p1)]) hx hb d_G_spread_9 hl (by decide) rfl (fun ls hl => ?_)
  obtain ⟨o2, hco2, hf⟩ := fg_ob_some hf
  refine w_G_spread_11 hx hb hml hown hts hK hA p1 B E C O n F L fu o1 0 0 V o2 hco2 _ _ _ hP hD hS (lv_sub hl [3, 5, 2, 1, 0] rfl) (fun H locs ls hP hD hS hl => ?_)
  refine lv_iload_n hx hb d_G_spread_47 rfl (lv_at hl 0 rfl) ?_
  cases hf
  exact hE _ _ _ _ hP hD hS d_G_spread_48
set_option maxHeartbeats 4000000 in
set_option maxRecDepth 100000 in
theorem c_G_circle (l : Launch) (dC : Nat → ClassId) (dI : Nat → Nat → Nat) (cI cZ : ClassId) (ad : Nat → Nat) (sz : Nat) (B : fg_A) (E : fg_A) (C : fg_A) (O : fg_A) (n : Int32) (F : fg_A) (L : fg_A) (V : fg_A) (p0 : Int32) (o : Int32) (hf : f_G_circle B E O n p0 = some o) : Met l y_G_circle w_G_circle rm_G_circle (gW_Pc dC dI cI cZ ad sz B E C O n F L V [.ref (ad 0), .int p0]) (gW_Qi dC dI cI cZ ad (va_A (gW cI cZ ad B E C O n F L V) sz) B E C O n F L V o) 0 0 (va_A (gW cI cZ ad B E C O n F L V) sz) := by
  refine Met.ofW (cc := b_G_circle) (maxL := 2) (ret := (some .int)) (by decide) rfl ?_
  intro p e s m args below meth c s₁ Bd hml hv
  obtain ⟨rfl, hsz, hP, hK, hD0⟩ := hv
  have hx := Bd.exec
  have hb := Bd.bytes
  have hr := Bd.returns
  have hts := fun w h => atoms_spec (ws := w_G_circle) Bd.pre w (List.mem_cons_of_mem _ h)
  have hown : s.vm.findClass R_G = some m.cls := findClass_of_methodNamed Bd.named
  have hlocks := Bd.notSynchronized
  subst hsz
  have hD := hD0.self (sz := s.heap.size)
  generalize hAe : va_A (gW cI cZ ad B E C O n F L V) s.heap.size = A at hD ⊢
  have hA : ∀ q : Nat, s.heap.size ≤ q → A q := fun q h => by rw [← hAe]; exact Or.inr h
  have hS : va_S A s.heap s.heap [] := va_S.rf
  have hl := lv_entry ([.ref (ad 0), .int p0]) (n := 2) (Nat.le_of_ble_eq_true rfl)
  rw [lg_entry_eq]
  generalize (lg_sl ([.ref (ad 0), .int p0]) ++ List.replicate (2 - (lg_sl ([.ref (ad 0), .int p0])).length) Slot.unset).toArray = ls at hl ⊢
  have hl : lv_has ls 2 [(0, .ref (ad 0)), (1, .int p0)] := hl
  have hE : ∀ (pc : Nat) (H : Heap) (locs : List Loc) (ls : Array Slot), va_P (dC, dI) classes (gW cI cZ ad B E C O n F L V) H → va_D A (gW cI cZ ad B E C O n F L V) → va_S A s.heap H locs → decode b_G_circle pc = .ok (.ireturn, 1) → W p l e (headSpec w_G_circle rm_G_circle).room s m ([.ref (ad 0), .int p0] : List Value).toArray below meth c H locs 0 0 (MQ below (gW_Qi dC dI cI cZ ad A B E C O n F L V o) ([.ref (ad 0), .int p0] : List Value).toArray s 0 0 A) (F0 m pc ls [.int o]) := fun pc H locs ls hP hD hS hd => W.iret (v := o) hx hb hr (fun t ht hW => ⟨⟨o, (), rfl, rfl, by rw [ht]; exact hP, va_K.moved hW.alike hK, hD⟩, hS.F ht⟩) hS.2.2 hd
  unfold f_G_circle at hf
  refine lv_iload_n hx hb d_G_circle_0 rfl (lv_at hl 1 rfl) ?_
  obtain ⟨o1, hco1, hf⟩ := fg_ob_some hf
  refine fg_v0 (W.runS (As := [.int p0]) (rest := []) ⟨hx, hb, hml, hown, hts⟩ (c_G_needNode l p0 hco1) (cwS 1 hts gs_G_82 rfl rfl rfl (by decide +kernel) ⟨Nat.le_of_ble_eq_true rfl, Nat.le_of_ble_eq_true rfl⟩) preEq rfl rfl hl.1 rfl (lv_room (Nat.le_of_ble_eq_true rfl)) d_G_circle_1 ⟨Nat.le_of_ble_eq_true rfl, Nat.le_of_ble_eq_true rfl⟩) ?_
  refine lv_aload_n hx hb d_G_circle_4 rfl (lv_at hl 0 rfl) ?_
  refine lv_iload_n hx hb d_G_circle_5 rfl (lv_at hl 1 rfl) ?_
  obtain ⟨o2, hco2, hf⟩ := fg_ob_some hf
  refine fgG_i (va_runV (As := [.int p0]) (rest := []) ⟨hx, hb, hml, hown, hts⟩ (c_G_circleOf l dC dI cI cZ ad _ B E C O n F L V p0 o2 hco2) (cwV 1 hts gv_G_85 rfl rfl rfl (by decide +kernel) ⟨Nat.le_of_ble_eq_true rfl, Nat.le_of_ble_eq_true rfl⟩) (gW_pre hK hP hD) rfl rfl hl.1 rfl (lv_room (Nat.le_of_ble_eq_true rfl)) d_G_circle_6 ⟨Nat.le_of_ble_eq_true rfl, Nat.le_of_ble_eq_true rfl⟩) hP hD hS hA (fun H locs hP hD hS => ?_)
  cases hf
  exact hE _ _ _ _ hP hD hS d_G_circle_9
set_option maxHeartbeats 4000000 in
set_option maxRecDepth 100000 in
theorem w_G_circles_6 {p : Program} {l : Launch} {e : Env} {s : State} {m : MethodId} {args : Array Value} {below : List Frame} {meth : Method} {c : Code} {Q : State → Prop} {A : Nat → Prop} {dC : Nat → ClassId} {dI : Nat → Nat → Nat} {cI cZ : ClassId} {ad : Nat → Nat} (hx : p.tables.exec = Jvm.exec) (hb : c.code = b_G_circles) (hml : c.maxLocals = 4) (hown : s.vm.findClass R_G = some m.cls) (hts : ∀ w ∈ gw, w.before args s = true) (hK : va_K (dC, dI) classes (gT cI cZ) s) (hA : ∀ q : Nat, s.heap.size ≤ q → A q) (B : fg_A) (E : fg_A) (C : fg_A) (O : fg_A) (n : Int32) (F : fg_A) (L : fg_A) (V : fg_A) :
    ∀ (k : Nat) (x1 : Int32) (x2 : Int32) (x3 : Int32) (o : Int32), f_G_circles_6 B E O n k x1 x2 x3 = some o → ∀ (H : Heap) (locs : List Loc) (ls : Array Slot), va_P (dC, dI) classes (gW cI cZ ad B E C O n F L V) H → va_D A (gW cI cZ ad B E C O n F L V) → va_S A s.heap H locs → lv_has ls 4 [(0, .ref (ad 0)), (1, .int x1), (2, .int x2), (3, .int x3)] →
    (∀ (H : Heap) (locs : List Loc) (ls : Array Slot), va_P (dC, dI) classes (gW cI cZ ad B E C O n F L V) H → va_D A (gW cI cZ ad B E C O n F L V) → va_S A s.heap H locs → lv_has ls 4 [(2, .int o)] → W p l e (headSpec w_G_circles rm_G_circles).room s m args below meth c H locs 0 0 Q (F0 m 37 ls [])) → W p l e (headSpec w_G_circles rm_G_circles).room s m args below meth c H locs 0 0 Q (F0 m 6 ls []) := by
  intro k
  induction k with
  | zero =>
    intro x1 x2 x3 o hf
    exact absurd (show none = some o from hf) (by simp)
  | succ k ih =>
    intro x1 x2 x3 o hf H locs ls hP hD hS hl hk
    rw [f_G_circles_6] at hf
    refine lv_iload_n hx hb d_G_circles_6 rfl (lv_at hl 3 rfl) ?_
    refine lv_bipush (v := 28) hx hb d_G_circles_7 (by decide) ?_
    refine lv_icmp_ge (tgt := 37) hx hb d_G_circles_9 (by decide) (fun hc => ?_) (fun hc => ?_)
    · rw [if_pos hc] at hf
      cases hf
      exact hk _ _ _ hP hD hS (lv_sub hl [2] rfl)
    · rw [if_neg hc] at hf
      refine lv_iload_n hx hb d_G_circles_12 rfl (lv_at hl 1 rfl) ?_
      refine lv_iload_n hx hb d_G_circles_13 rfl (lv_at hl 3 rfl) ?_
      obtain ⟨o1, hco1, hf⟩ := fg_ob_some hf
      refine fg_r0 (W.runS (As := [.int x1, .int x3]) (rest := []) ⟨hx, hb, hml, hown, hts⟩ (c_G_has l x1 x3 o1 hco1) (cwS 2 hts gs_G_74 rfl rfl rfl (by decide +kernel) ⟨Nat.le_of_ble_eq_true rfl, Nat.le_of_ble_eq_true rfl⟩) preEq rfl rfl hl.1 rfl (lv_room (Nat.le_of_ble_eq_true rfl)) d_G_circles_14 ⟨Nat.le_of_ble_eq_true rfl, Nat.le_of_ble_eq_true rfl⟩) ?_
      refine lv_if_ne (tgt := 31) hx hb d_G_circles_17 (by decide) (fun hc => ?_) (fun hc => ?_)
      · rw [if_neg hc] at hf
        refine lv_iinc (v := x3 + 1) (lv' := [(3, .int (x3 + 1)), (0, .ref (ad 0)), (1, .int x1), (2, .int x2)]) hx hb d_G_circles_31 hl (k := 3) rfl rfl (by decide) rfl (fun ls hl => ?_)
        refine lv_goto (tgt := 6) hx hb d_G_circles_34 (by decide) ?_
        exact ih x1 x2 (x3 + 1) _ hf _ _ _ hP hD hS (lv_sub hl [1, 2, 3, 0] rfl) hk
      · rw [if_pos hc] at hf
        refine lv_iload_n hx hb d_G_circles_20 rfl (lv_at hl 1 rfl) ?_
        refine lv_aload_n hx hb d_G_circles_21 rfl (lv_at hl 0 rfl) ?_
        refine lv_iload_n hx hb d_G_circles_22 rfl (lv_at hl 3 rfl) ?_
        obtain ⟨o2, hco2, hf⟩ := fg_ob_some hf
        refine fgG_i (va_runV (As := [.int x3]) (rest := [.int x1]) ⟨hx, hb, hml, hown, hts⟩ (c_G_circleOf l dC dI cI cZ ad _ B E C O n F L V x3 o2 hco2) (cwV 1 hts gv_G_85 rfl rfl rfl (by decide +kernel) ⟨Nat.le_of_ble_eq_true rfl, Nat.le_of_ble_eq_true rfl⟩) (gW_pre hK hP hD) rfl rfl hl.1 rfl (lv_room (Nat.le_of_ble_eq_true rfl)) d_G_circles_23 ⟨Nat.le_of_ble_eq_true rfl, Nat.le_of_ble_eq_true rfl⟩) hP hD hS hA (fun H locs hP hD hS => ?_)
        refine lv_ior hx hb d_G_circles_26 ?_
        refine lv_istore_n (lv' := [(1, .int (x1 ||| o2)), (0, .ref (ad 0)), (2, .int x2), (3, .int x3)]) hx hb d_G_circles_27 rfl hl (by decide) rfl (fun ls hl => ?_)
        refine lv_iinc (v := x2 + 1) (lv' := [(2, .int (x2 + 1)), (1, .int (x1 ||| o2)), (0, .ref (ad 0)), (3, .int x3)]) hx hb d_G_circles_28 hl (k := 2) rfl rfl (by decide) rfl (fun ls hl => ?_)
        refine lv_iinc (v := x3 + 1) (lv' := [(3, .int (x3 + 1)), (2, .int (x2 + 1)), (1, .int (x1 ||| o2)), (0, .ref (ad 0))]) hx hb d_G_circles_31 hl (k := 3) rfl rfl (by decide) rfl (fun ls hl => ?_)
        refine lv_goto (tgt := 6) hx hb d_G_circles_34 (by decide) ?_
        exact ih (x1 ||| o2) (x2 + 1) (x3 + 1) _ hf _ _ _ hP hD hS (lv_sub hl [3, 2, 1, 0] rfl) hk
set_option maxHeartbeats 4000000 in
set_option maxRecDepth 100000 in
theorem c_G_circles (l : Launch) (dC : Nat → ClassId) (dI : Nat → Nat → Nat) (cI cZ : ClassId) (ad : Nat → Nat) (sz : Nat) (B : fg_A) (E : fg_A) (C : fg_A) (O : fg_A) (n : Int32) (F : fg_A) (L : fg_A) (V : fg_A) (o : Int32) (hf : f_G_circles B E O n = some o) : Met l y_G_circles w_G_circles rm_G_circles (gW_Pc dC dI cI cZ ad sz B E C O n F L V [.ref (ad 0)]) (gW_Qi dC dI cI cZ ad (va_A (gW cI cZ ad B E C O n F L V) sz) B E C O n F L V o) 0 0 (va_A (gW cI cZ ad B E C O n F L V) sz) := by
  refine Met.ofW (cc := b_G_circles) (maxL := 4) (ret := (some .int)) (by decide) rfl ?_
  intro p e s m args below meth c s₁ Bd hml hv
  obtain ⟨rfl, hsz, hP, hK, hD0⟩ := hv
  have hx := Bd.exec
  have hb := Bd.bytes
  have hr := Bd.returns
  have hts := fun w h => atoms_spec (ws := w_G_circles) Bd.pre w (List.mem_cons_of_mem _ h)
  have hown : s.vm.findClass R_G = some m.cls := findClass_of_methodNamed Bd.named
  have hlocks := Bd.notSynchronized
  subst hsz
  have hD := hD0.self (sz := s.heap.size)
  generalize hAe : va_A (gW cI cZ ad B E C O n F L V) s.heap.size = A at hD ⊢
  have hA : ∀ q : Nat, s.heap.size ≤ q → A q := fun q h => by rw [← hAe]; exact Or.inr h
  have hS : va_S A s.heap s.heap [] := va_S.rf
  have hl := lv_entry ([.ref (ad 0)]) (n := 4) (Nat.le_of_ble_eq_true rfl)
  rw [lg_entry_eq]
  generalize (lg_sl ([.ref (ad 0)]) ++ List.replicate (4 - (lg_sl ([.ref (ad 0)])).length) Slot.unset).toArray = ls at hl ⊢
  have hl : lv_has ls 4 [(0, .ref (ad 0))] := hl
  have hE : ∀ (pc : Nat) (H : Heap) (locs : List Loc) (ls : Array Slot), va_P (dC, dI) classes (gW cI cZ ad B E C O n F L V) H → va_D A (gW cI cZ ad B E C O n F L V) → va_S A s.heap H locs → decode b_G_circles pc = .ok (.ireturn, 1) → W p l e (headSpec w_G_circles rm_G_circles).room s m ([.ref (ad 0)] : List Value).toArray below meth c H locs 0 0 (MQ below (gW_Qi dC dI cI cZ ad A B E C O n F L V o) ([.ref (ad 0)] : List Value).toArray s 0 0 A) (F0 m pc ls [.int o]) := fun pc H locs ls hP hD hS hd => W.iret (v := o) hx hb hr (fun t ht hW => ⟨⟨o, (), rfl, rfl, by rw [ht]; exact hP, va_K.moved hW.alike hK, hD⟩, hS.F ht⟩) hS.2.2 hd
  unfold f_G_circles at hf
  refine lv_iconst (v := 0) hx hb d_G_circles_0 (by decide) ?_
  refine lv_istore_n (lv' := [(1, .int 0), (0, .ref (ad 0))]) hx hb d_G_circles_1 rfl hl (by decide) rfl (fun ls hl => ?_)
  refine lv_iconst (v := 0) hx hb d_G_circles_2 (by decide) ?_
  refine lv_istore_n (lv' := [(2, .int 0), (1, .int 0), (0, .ref (ad 0))]) hx hb d_G_circles_3 rfl hl (by decide) rfl (fun ls hl => ?_)
  refine lv_iconst (v := 0) hx hb d_G_circles_4 (by decide) ?_
  refine lv_istore_n (lv' := [(3, .int 0), (2, .int 0), (1, .int 0), (0, .ref (ad 0))]) hx hb d_G_circles_5 rfl hl (by decide) rfl (fun ls hl => ?_)
  obtain ⟨o1, hco1, hf⟩ := fg_ob_some hf
  refine w_G_circles_6 hx hb hml hown hts hK hA B E C O n F L V fu 0 0 0 o1 hco1 _ _ _ hP hD hS (lv_sub hl [3, 2, 1, 0] rfl) (fun H locs ls hP hD hS hl => ?_)
  refine lv_iload_n hx hb d_G_circles_37 rfl (lv_at hl 0 rfl) ?_
  cases hf
  exact hE _ _ _ _ hP hD hS d_G_circles_38
