set_option maxHeartbeats 4000000 in
set_option maxRecDepth 100000 in
theorem c_G_length (l : Launch) (dC : Nat → ClassId) (dI : Nat → Nat → Nat) (cI cZ : ClassId) (ad : Nat → Nat) (sz : Nat) (B : fg_A) (E : fg_A) (C : fg_A) (O : fg_A) (n : Int32) (F : fg_A) (L : fg_A) (V : fg_A) (p0 : Int32) (p1 : Int32) (o : Int32 × fg_A) (hf : f_G_length B E O n F p0 p1 = some o) : Met l y_G_length w_G_length rm_G_length (gW_Pc dC dI cI cZ ad sz B E C O n F L V [.ref (ad 0), .int p0, .int p1]) (gW_Qi dC dI cI cZ ad (va_A (gW cI cZ ad B E C O n F L V) sz) B E C O n o.2 L V o.1) 0 0 (va_A (gW cI cZ ad B E C O n F L V) sz) := by
  refine Met.ofW (cc := b_G_length) (maxL := 3) (ret := (some .int)) (by decide) rfl ?_
  intro p e s m args below meth c s₁ Bd hml hv
  obtain ⟨rfl, hsz, hP, hK, hD0⟩ := hv
  have hx := Bd.exec
  have hb := Bd.bytes
  have hr := Bd.returns
  have hts := fun w h => atoms_spec (ws := w_G_length) Bd.pre w (List.mem_cons_of_mem _ h)
  have hown : s.vm.findClass R_G = some m.cls := findClass_of_methodNamed Bd.named
  have hlocks := Bd.notSynchronized
  subst hsz
  have hD := hD0.self (sz := s.heap.size)
  generalize hAe : va_A (gW cI cZ ad B E C O n F L V) s.heap.size = A at hD ⊢
  have hA : ∀ q : Nat, s.heap.size ≤ q → A q := fun q h => by rw [← hAe]; exact Or.inr h
  have hS : va_S A s.heap s.heap [] := va_S.rf
  have hl := lv_entry ([.ref (ad 0), .int p0, .int p1]) (n := 3) (Nat.le_of_ble_eq_true rfl)
  rw [lg_entry_eq]
  generalize (lg_sl ([.ref (ad 0), .int p0, .int p1]) ++ List.replicate (3 - (lg_sl ([.ref (ad 0), .int p0, .int p1])).length) Slot.unset).toArray = ls at hl ⊢
  have hl : lv_has ls 3 [(0, .ref (ad 0)), (1, .int p0), (2, .int p1)] := hl
  have hE : ∀ (pc : Nat) (H : Heap) (locs : List Loc) (ls : Array Slot), va_P (dC, dI) classes (gW cI cZ ad B E C O n o.2 L V) H → va_D A (gW cI cZ ad B E C O n o.2 L V) → va_S A s.heap H locs → decode b_G_length pc = .ok (.ireturn, 1) → W p l e (headSpec w_G_length rm_G_length).room s m ([.ref (ad 0), .int p0, .int p1] : List Value).toArray below meth c H locs 0 0 (MQ below (gW_Qi dC dI cI cZ ad A B E C O n o.2 L V o.1) ([.ref (ad 0), .int p0, .int p1] : List Value).toArray s 0 0 A) (F0 m pc ls [.int o.1]) := fun pc H locs ls hP hD hS hd => W.iret (v := o.1) hx hb hr (fun t ht hW => ⟨⟨o.1, (), rfl, rfl, by rw [ht]; exact hP, va_K.moved hW.alike hK, hD⟩, hS.F ht⟩) hS.2.2 hd
  unfold f_G_length at hf
  refine lv_iload_n hx hb d_G_length_0 rfl (lv_at hl 1 rfl) ?_
  refine lv_iload_n hx hb d_G_length_1 rfl (lv_at hl 2 rfl) ?_
  obtain ⟨o1, hco1, hf⟩ := fg_ob_some hf
  refine fg_v0 (W.runS (As := [.int p0, .int p1]) (rest := []) ⟨hx, hb, hml, hown, hts⟩ (c_G_needNodes l p0 p1 hco1) (cwS 2 hts gs_G_57 rfl rfl rfl (by decide +kernel) ⟨Nat.le_of_ble_eq_true rfl, Nat.le_of_ble_eq_true rfl⟩) preEq rfl rfl hl.1 rfl (lv_room (Nat.le_of_ble_eq_true rfl)) d_G_length_2 ⟨Nat.le_of_ble_eq_true rfl, Nat.le_of_ble_eq_true rfl⟩) ?_
  refine lv_aload_n hx hb d_G_length_5 rfl (lv_at hl 0 rfl) ?_
  refine lv_iload_n hx hb d_G_length_6 rfl (lv_at hl 2 rfl) ?_
  obtain ⟨o2, hco2, hf⟩ := fg_ob_some hf
  refine fgG_v (va_runV (As := [.int p1]) (rest := []) ⟨hx, hb, hml, hown, hts⟩ (c_G_measureWaysTo l dC dI cI cZ ad _ B E C O n F L V p1 o2 hco2) (cwV 1 hts gv_G_60 rfl rfl rfl (by decide +kernel) ⟨Nat.le_of_ble_eq_true rfl, Nat.le_of_ble_eq_true rfl⟩) (gW_pre hK hP hD) rfl rfl hl.1 rfl (lv_room (Nat.le_of_ble_eq_true rfl)) d_G_length_7 ⟨Nat.le_of_ble_eq_true rfl, Nat.le_of_ble_eq_true rfl⟩) hP hD hS hA (fun H locs hP hD hS => ?_)
  refine lv_aload_n hx hb d_G_length_10 rfl (lv_at hl 0 rfl) ?_
  refine va_get (D := (dC, dI)) (ci := 0) (v := .ref (ad 5)) (C := R_G) (T := F_G) (N := 8) hx hb hts i_G hown hK hP 0 rfl rfl 5 (by decide) (hts _ fl_G_27) (fun _ h9 => h9) rfl d_G_length_11 ?_
  refine lv_iload_n hx hb d_G_length_14 rfl (lv_at hl 1 rfl) ?_
  obtain ⟨hi, hf⟩ := fg_og_some hf
  refine va_iald hx hb hK hP 5 0 rfl rfl (ix_in hi) d_G_length_15 ?_
  cases hf
  exact hE _ _ _ _ hP hD hS d_G_length_16
set_option maxHeartbeats 4000000 in
set_option maxRecDepth 100000 in
theorem c_G_step (l : Launch) (dC : Nat → ClassId) (dI : Nat → Nat → Nat) (cI cZ : ClassId) (ad : Nat → Nat) (sz : Nat) (B : fg_A) (E : fg_A) (C : fg_A) (O : fg_A) (n : Int32) (F : fg_A) (L : fg_A) (V : fg_A) (p0 : Int32) (p1 : Int32) (p2 : Int32) (o : Int32 × fg_A) (hf : f_G_step B E O n F p0 p1 p2 = some o) : Met l y_G_step w_G_step rm_G_step (gW_Pc dC dI cI cZ ad sz B E C O n F L V [.ref (ad 0), .int p0, .int p1, .int p2]) (gW_Qi dC dI cI cZ ad (va_A (gW cI cZ ad B E C O n F L V) sz) B E C O n o.2 L V o.1) 0 0 (va_A (gW cI cZ ad B E C O n F L V) sz) := by
  refine Met.ofW (cc := b_G_step) (maxL := 4) (ret := (some .int)) (by decide) rfl ?_
  intro p e s m args below meth c s₁ Bd hml hv
  obtain ⟨rfl, hsz, hP, hK, hD0⟩ := hv
  have hx := Bd.exec
  have hb := Bd.bytes
  have hr := Bd.returns
  have hts := fun w h => atoms_spec (ws := w_G_step) Bd.pre w (List.mem_cons_of_mem _ h)
  have hown : s.vm.findClass R_G = some m.cls := findClass_of_methodNamed Bd.named
  have hlocks := Bd.notSynchronized
  subst hsz
  have hD := hD0.self (sz := s.heap.size)
  generalize hAe : va_A (gW cI cZ ad B E C O n F L V) s.heap.size = A at hD ⊢
  have hA : ∀ q : Nat, s.heap.size ≤ q → A q := fun q h => by rw [← hAe]; exact Or.inr h
  have hS : va_S A s.heap s.heap [] := va_S.rf
  have hl := lv_entry ([.ref (ad 0), .int p0, .int p1, .int p2]) (n := 4) (Nat.le_of_ble_eq_true rfl)
  rw [lg_entry_eq]
  generalize (lg_sl ([.ref (ad 0), .int p0, .int p1, .int p2]) ++ List.replicate (4 - (lg_sl ([.ref (ad 0), .int p0, .int p1, .int p2])).length) Slot.unset).toArray = ls at hl ⊢
  have hl : lv_has ls 4 [(0, .ref (ad 0)), (1, .int p0), (2, .int p1), (3, .int p2)] := hl
  have hE : ∀ (pc : Nat) (H : Heap) (locs : List Loc) (ls : Array Slot), va_P (dC, dI) classes (gW cI cZ ad B E C O n o.2 L V) H → va_D A (gW cI cZ ad B E C O n o.2 L V) → va_S A s.heap H locs → decode b_G_step pc = .ok (.ireturn, 1) → W p l e (headSpec w_G_step rm_G_step).room s m ([.ref (ad 0), .int p0, .int p1, .int p2] : List Value).toArray below meth c H locs 0 0 (MQ below (gW_Qi dC dI cI cZ ad A B E C O n o.2 L V o.1) ([.ref (ad 0), .int p0, .int p1, .int p2] : List Value).toArray s 0 0 A) (F0 m pc ls [.int o.1]) := fun pc H locs ls hP hD hS hd => W.iret (v := o.1) hx hb hr (fun t ht hW => ⟨⟨o.1, (), rfl, rfl, by rw [ht]; exact hP, va_K.moved hW.alike hK, hD⟩, hS.F ht⟩) hS.2.2 hd
  unfold f_G_step at hf
  refine lv_iload_n hx hb d_G_step_0 rfl (lv_at hl 1 rfl) ?_
  refine lv_iload_n hx hb d_G_step_1 rfl (lv_at hl 2 rfl) ?_
  obtain ⟨o1, hco1, hf⟩ := fg_ob_some hf
  refine fg_v0 (W.runS (As := [.int p0, .int p1]) (rest := []) ⟨hx, hb, hml, hown, hts⟩ (c_G_needNodes l p0 p1 hco1) (cwS 2 hts gs_G_57 rfl rfl rfl (by decide +kernel) ⟨Nat.le_of_ble_eq_true rfl, Nat.le_of_ble_eq_true rfl⟩) preEq rfl rfl hl.1 rfl (lv_room (Nat.le_of_ble_eq_true rfl)) d_G_step_2 ⟨Nat.le_of_ble_eq_true rfl, Nat.le_of_ble_eq_true rfl⟩) ?_
  refine lv_aload_n hx hb d_G_step_5 rfl (lv_at hl 0 rfl) ?_
  refine lv_iload_n hx hb d_G_step_6 rfl (lv_at hl 2 rfl) ?_
  obtain ⟨o2, hco2, hf⟩ := fg_ob_some hf
  refine fgG_v (va_runV (As := [.int p1]) (rest := []) ⟨hx, hb, hml, hown, hts⟩ (c_G_measureWaysTo l dC dI cI cZ ad _ B E C O n F L V p1 o2 hco2) (cwV 1 hts gv_G_60 rfl rfl rfl (by decide +kernel) ⟨Nat.le_of_ble_eq_true rfl, Nat.le_of_ble_eq_true rfl⟩) (gW_pre hK hP hD) rfl rfl hl.1 rfl (lv_room (Nat.le_of_ble_eq_true rfl)) d_G_step_7 ⟨Nat.le_of_ble_eq_true rfl, Nat.le_of_ble_eq_true rfl⟩) hP hD hS hA (fun H locs hP hD hS => ?_)
  refine lv_iload_n hx hb d_G_step_10 rfl (lv_at hl 3 rfl) ?_
  refine lv_if_lt (tgt := 24) hx hb d_G_step_11 (by decide) (fun hc => ?_) (fun hc => ?_)
  · rw [if_pos hc] at hf
    cases hf
  · rw [if_neg hc] at hf
    refine lv_iload_n hx hb d_G_step_14 rfl (lv_at hl 3 rfl) ?_
    refine lv_aload_n hx hb d_G_step_15 rfl (lv_at hl 0 rfl) ?_
    refine va_get (D := (dC, dI)) (ci := 0) (v := .ref (ad 5)) (C := R_G) (T := F_G) (N := 8) hx hb hts i_G hown hK hP 0 rfl rfl 5 (by decide) (hts _ fl_G_27) (fun _ h9 => h9) rfl d_G_step_16 ?_
    refine lv_iload_n hx hb d_G_step_19 rfl (lv_at hl 1 rfl) ?_
    obtain ⟨hi, hf⟩ := fg_og_some hf
    refine va_iald hx hb hK hP 5 0 rfl rfl (ix_in hi) d_G_step_20 ?_
    refine lv_icmp_lt (tgt := 34) hx hb d_G_step_21 (by decide) (fun hc => ?_) (fun hc => ?_)
    · rw [if_pos hc] at hf
      refine lv_aload_n hx hb d_G_step_34 rfl (lv_at hl 0 rfl) ?_
      refine lv_iload_n hx hb d_G_step_35 rfl (lv_at hl 1 rfl) ?_
      refine lv_iload_n hx hb d_G_step_36 rfl (lv_at hl 3 rfl) ?_
      obtain ⟨o3, hco3, hf⟩ := fg_ob_some hf
      refine fgG_i (va_runV (As := [.int p0, .int p2]) (rest := []) ⟨hx, hb, hml, hown, hts⟩ (c_G_ruleOfLeastWay l dC dI cI cZ ad _ B E C O n o2 L V p0 p2 o3 hco3) (cwV 2 hts gv_G_66 rfl rfl rfl (by decide +kernel) ⟨Nat.le_of_ble_eq_true rfl, Nat.le_of_ble_eq_true rfl⟩) (gW_pre hK hP hD) rfl rfl hl.1 rfl (lv_room (Nat.le_of_ble_eq_true rfl)) d_G_step_37 ⟨Nat.le_of_ble_eq_true rfl, Nat.le_of_ble_eq_true rfl⟩) hP hD hS hA (fun H locs hP hD hS => ?_)
      cases hf
      exact hE _ _ _ _ hP hD hS d_G_step_40
    · rw [if_neg hc] at hf
      cases hf
set_option maxHeartbeats 4000000 in
set_option maxRecDepth 100000 in
theorem c_G_needUnlikeNodes (l : Launch) (p0 : Int32) (p1 : Int32) {o : Unit} (hf : f_G_needUnlikeNodes p0 p1 = some o) : Met l y_G_needUnlikeNodes w_G_needUnlikeNodes rm_G_needUnlikeNodes (fun v _ => v = ([.int p0, .int p1] : List Value).toArray) (fg_Qv0) 0 0 (fun _ => False) := by
  refine Met.ofW (cc := b_G_needUnlikeNodes) (maxL := 2) (ret := none) (by decide) rfl ?_
  intro p e s m args below meth c s₁ Bd hml hv
  obtain rfl := hv
  have hx := Bd.exec
  have hb := Bd.bytes
  have hr := Bd.returns
  have hts := fun w h => atoms_spec (ws := w_G_needUnlikeNodes) Bd.pre w (List.mem_cons_of_mem _ h)
  have hown : s.vm.findClass R_G = some m.cls := findClass_of_methodNamed Bd.named
  have hlocks := Bd.notSynchronized
  have hl := lv_entry ([.int p0, .int p1]) (n := 2) (Nat.le_of_ble_eq_true rfl)
  rw [lg_entry_eq]
  generalize (lg_sl ([.int p0, .int p1]) ++ List.replicate (2 - (lg_sl ([.int p0, .int p1])).length) Slot.unset).toArray = ls at hl ⊢
  have hl : lv_has ls 2 [(0, .int p0), (1, .int p1)] := hl
  unfold f_G_needUnlikeNodes at hf
  refine lv_iload_n hx hb d_G_needUnlikeNodes_0 rfl (lv_at hl 0 rfl) ?_
  refine lv_iload_n hx hb d_G_needUnlikeNodes_1 rfl (lv_at hl 1 rfl) ?_
  obtain ⟨o1, hco1, hf⟩ := fg_ob_some hf
  refine fg_v0 (W.runS (As := [.int p0, .int p1]) (rest := []) ⟨hx, hb, hml, hown, hts⟩ (c_G_needNodes l p0 p1 hco1) (cwS 2 hts gs_G_57 rfl rfl rfl (by decide +kernel) ⟨Nat.le_of_ble_eq_true rfl, Nat.le_of_ble_eq_true rfl⟩) preEq rfl rfl hl.1 rfl (lv_room (Nat.le_of_ble_eq_true rfl)) d_G_needUnlikeNodes_2 ⟨Nat.le_of_ble_eq_true rfl, Nat.le_of_ble_eq_true rfl⟩) ?_
  refine lv_iload_n hx hb d_G_needUnlikeNodes_5 rfl (lv_at hl 0 rfl) ?_
  refine lv_iload_n hx hb d_G_needUnlikeNodes_6 rfl (lv_at hl 1 rfl) ?_
  refine lv_icmp_ne (tgt := 20) hx hb d_G_needUnlikeNodes_7 (by decide) (fun hc => ?_) (fun hc => ?_)
  · rw [if_neg hc] at hf
    exact W.vret hx hb hr (fun t ht hW => ⟨rfl, ht⟩) (fun q h => by cases h) d_G_needUnlikeNodes_20
  · rw [if_pos hc] at hf
    cases hf
set_option maxHeartbeats 4000000 in
set_option maxRecDepth 100000 in
theorem w_G_reach_33_fwd {p : Program} {l : Launch} {e : Env} {s : State} {m : MethodId} {args : Array Value} {below : List Frame} {meth : Method} {c : Code} {Q : State → Prop} {A : Nat → Prop} {dC : Nat → ClassId} {dI : Nat → Nat → Nat} {cI cZ : ClassId} {ad : Nat → Nat} (hx : p.tables.exec = Jvm.exec) (hb : c.code = b_G_reach) (hml : c.maxLocals = 9) (hown : s.vm.findClass R_G = some m.cls) (hts : ∀ w ∈ gw, w.before args s = true) (hK : va_K (dC, dI) classes (gT cI cZ) s) (hA : ∀ q : Nat, s.heap.size ≤ q → A q) (x4 : Int32) (x6 : Int32) (x7 : Int32) (B : fg_A) (E : fg_A) (C : fg_A) (O : fg_A) (n : Int32) (F : fg_A) (L : fg_A) (V : fg_A) :
    ∀ (k : Nat) (x5 : Int32) (x8 : Int32) (o : Int32), f_G_reach_33 B E O n x4 x6 x7 k x5 x8 = some o → ∀ (H : Heap) (locs : List Loc) (ls : Array Slot), va_P (dC, dI) classes (gW cI cZ ad B E C O n F L V) H → va_D A (gW cI cZ ad B E C O n F L V) → va_S A s.heap H locs → lv_has ls 9 [(0, .ref (ad 0)), (1, .ref (ad 1)), (2, .ref (ad 2)), (4, .int x4), (5, .int x5), (6, .int x6), (7, .int x7), (8, .int x8)] →
    (∀ (H : Heap) (locs : List Loc) (ls : Array Slot), va_P (dC, dI) classes (gW cI cZ ad B E C O n F L V) H → va_D A (gW cI cZ ad B E C O n F L V) → va_S A s.heap H locs → lv_has ls 9 [(0, .ref (ad 0)), (1, .ref (ad 1)), (2, .ref (ad 2)), (4, .int x4), (5, .int o), (6, .int x6), (7, .int x7)] → W p l e (headSpec w_G_reach rm_G_reach).room s m args below meth c H locs 0 0 Q (F0 m 94 ls [])) → W p l e (headSpec w_G_reach rm_G_reach).room s m args below meth c H locs 0 0 Q (F0 m 33 ls []) := by
  intro k
  induction k with
  | zero =>
    intro x5 x8 o hf
    exact absurd (show none = some o from hf) (by simp)
  | succ k ih =>
    intro x5 x8 o hf H locs ls hP hD hS hl hk
    rw [f_G_reach_33] at hf
    refine lv_iload hx hb d_G_reach_33 (lv_at hl 7 rfl) ?_
    refine lv_aload_n hx hb d_G_reach_35 rfl (lv_at hl 0 rfl) ?_
    refine va_get (D := (dC, dI)) (ci := 0) (v := .int n) (C := R_G) (T := F_G) (N := 8) hx hb hts i_G hown hK hP 0 rfl rfl 4 (by decide) (hts _ fl_G_23) (fun _ h9 => h9) rfl d_G_reach_36 ?_
    refine lv_icmp_ge (tgt := 94) hx hb d_G_reach_39 (by decide) (fun hc => ?_) (fun hc => ?_)
    · rw [if_pos hc] at hf
      cases hf
      exact hk _ _ _ hP hD hS (lv_sub hl [0, 1, 2, 3, 4, 5, 6] rfl)
    · rw [if_neg hc] at hf
      refine lv_aload_n hx hb d_G_reach_42 rfl (lv_at hl 0 rfl) ?_
      refine va_get (D := (dC, dI)) (ci := 0) (v := .ref (ad 4)) (C := R_G) (T := F_G) (N := 8) hx hb hts i_G hown hK hP 0 rfl rfl 3 (by decide) (hts _ fl_G_19) (fun _ h9 => h9) rfl d_G_reach_43 ?_
      refine lv_iload hx hb d_G_reach_46 (lv_at hl 7 rfl) ?_
      obtain ⟨hi, hf⟩ := fg_og_some hf
      refine va_zald hx hb hK hP 4 1 rfl rfl (ix_in hi) d_G_reach_48 ?_
      refine lv_if_eq (tgt := 88) hx hb d_G_reach_49 (by decide) (fun hc => ?_) (fun hc => ?_)
      · rw [if_pos hc] at hf
        refine lv_iinc (v := x8 + 1) (lv' := [(8, .int (x8 + 1)), (0, .ref (ad 0)), (1, .ref (ad 1)), (2, .ref (ad 2)), (4, .int x4), (5, .int x5), (6, .int x6), (7, .int x7)]) hx hb d_G_reach_88 hl (k := 7) rfl rfl (by decide) rfl (fun ls hl => ?_)
        refine lv_goto (tgt := 33) hx hb d_G_reach_91 (by decide) ?_
        exact ih x5 (x8 + 1) _ hf _ _ _ hP hD hS (lv_sub hl [1, 2, 3, 4, 5, 6, 7, 0] rfl) hk
      · rw [if_neg hc] at hf
        refine lv_iload hx hb d_G_reach_52 (lv_at hl 4 rfl) ?_
        refine lv_aload_n hx hb d_G_reach_54 rfl (lv_at hl 1 rfl) ?_
        refine lv_iload hx hb d_G_reach_55 (lv_at hl 7 rfl) ?_
        obtain ⟨hi, hf⟩ := fg_og_some hf
        refine va_iald hx hb hK hP 1 0 rfl rfl (ix_in hi) d_G_reach_57 ?_
        obtain ⟨o1, hco1, hf⟩ := fg_ob_some hf
        refine fg_r0 (W.runS (As := [.int x5, .int (B x8.toNatClampNeg)]) (rest := []) ⟨hx, hb, hml, hown, hts⟩ (c_G_has l x5 (B x8.toNatClampNeg) o1 hco1) (cwS 2 hts gs_G_74 rfl rfl rfl (by decide +kernel) ⟨Nat.le_of_ble_eq_true rfl, Nat.le_of_ble_eq_true rfl⟩) preEq rfl rfl hl.1 rfl (lv_room (Nat.le_of_ble_eq_true rfl)) d_G_reach_58 ⟨Nat.le_of_ble_eq_true rfl, Nat.le_of_ble_eq_true rfl⟩) ?_
        refine lv_if_eq (tgt := 88) hx hb d_G_reach_61 (by decide) (fun hc => ?_) (fun hc => ?_)
        · rw [if_pos hc] at hf
          refine lv_iinc (v := x8 + 1) (lv' := [(8, .int (x8 + 1)), (0, .ref (ad 0)), (1, .ref (ad 1)), (2, .ref (ad 2)), (4, .int x4), (5, .int x5), (6, .int x6), (7, .int x7)]) hx hb d_G_reach_88 hl (k := 7) rfl rfl (by decide) rfl (fun ls hl => ?_)
          refine lv_goto (tgt := 33) hx hb d_G_reach_91 (by decide) ?_
          exact ih x5 (x8 + 1) _ hf _ _ _ hP hD hS (lv_sub hl [1, 2, 3, 4, 5, 6, 7, 0] rfl) hk
        · rw [if_neg hc] at hf
          refine lv_iload hx hb d_G_reach_64 (lv_at hl 3 rfl) ?_
          refine lv_aload_n hx hb d_G_reach_66 rfl (lv_at hl 2 rfl) ?_
          refine lv_iload hx hb d_G_reach_67 (lv_at hl 7 rfl) ?_
          obtain ⟨hi, hf⟩ := fg_og_some hf
          refine va_iald hx hb hK hP 2 0 rfl rfl (ix_in hi) d_G_reach_69 ?_
          obtain ⟨o2, hco2, hf⟩ := fg_ob_some hf
          refine fg_r0 (W.runS (As := [.int x4, .int (E x8.toNatClampNeg)]) (rest := []) ⟨hx, hb, hml, hown, hts⟩ (c_G_has l x4 (E x8.toNatClampNeg) o2 hco2) (cwS 2 hts gs_G_74 rfl rfl rfl (by decide +kernel) ⟨Nat.le_of_ble_eq_true rfl, Nat.le_of_ble_eq_true rfl⟩) preEq rfl rfl hl.1 rfl (lv_room (Nat.le_of_ble_eq_true rfl)) d_G_reach_70 ⟨Nat.le_of_ble_eq_true rfl, Nat.le_of_ble_eq_true rfl⟩) ?_
          refine lv_if_ne (tgt := 88) hx hb d_G_reach_73 (by decide) (fun hc => ?_) (fun hc => ?_)
          · rw [if_neg hc] at hf
            refine lv_iinc (v := x8 + 1) (lv' := [(8, .int (x8 + 1)), (0, .ref (ad 0)), (1, .ref (ad 1)), (2, .ref (ad 2)), (4, .int x4), (5, .int x5), (6, .int x6), (7, .int x7)]) hx hb d_G_reach_88 hl (k := 7) rfl rfl (by decide) rfl (fun ls hl => ?_)
            refine lv_goto (tgt := 33) hx hb d_G_reach_91 (by decide) ?_
            exact ih x5 (x8 + 1) _ hf _ _ _ hP hD hS (lv_sub hl [1, 2, 3, 4, 5, 6, 7, 0] rfl) hk
          · rw [if_pos hc] at hf
            refine lv_iload hx hb d_G_reach_76 (lv_at hl 4 rfl) ?_
            refine lv_aload_n hx hb d_G_reach_78 rfl (lv_at hl 2 rfl) ?_
            refine lv_iload hx hb d_G_reach_79 (lv_at hl 7 rfl) ?_
            obtain ⟨hi, hf⟩ := fg_og_some hf
            refine va_iald hx hb hK hP 2 0 rfl rfl (ix_in hi) d_G_reach_81 ?_
            obtain ⟨o3, hco3, hf⟩ := fg_ob_some hf
            refine fg_r0 (W.runS (As := [.int (E x8.toNatClampNeg)]) (rest := [.int x5]) ⟨hx, hb, hml, hown, hts⟩ (c_G_bit l (E x8.toNatClampNeg) o3 hco3) (cwS 1 hts gs_G_78 rfl rfl rfl (by decide +kernel) ⟨Nat.le_of_ble_eq_true rfl, Nat.le_of_ble_eq_true rfl⟩) preEq rfl rfl hl.1 rfl (lv_room (Nat.le_of_ble_eq_true rfl)) d_G_reach_82 ⟨Nat.le_of_ble_eq_true rfl, Nat.le_of_ble_eq_true rfl⟩) ?_
            refine lv_ior hx hb d_G_reach_85 ?_
            refine lv_istore (lv' := [(5, .int (x5 ||| o3)), (0, .ref (ad 0)), (1, .ref (ad 1)), (2, .ref (ad 2)), (4, .int x4), (6, .int x6), (7, .int x7), (8, .int x8)]) hx hb d_G_reach_86 hl (by decide) rfl (fun ls hl => ?_)
            refine lv_iinc (v := x8 + 1) (lv' := [(8, .int (x8 + 1)), (5, .int (x5 ||| o3)), (0, .ref (ad 0)), (1, .ref (ad 1)), (2, .ref (ad 2)), (4, .int x4), (6, .int x6), (7, .int x7)]) hx hb d_G_reach_88 hl (k := 7) rfl rfl (by decide) rfl (fun ls hl => ?_)
            refine lv_goto (tgt := 33) hx hb d_G_reach_91 (by decide) ?_
            exact ih (x5 ||| o3) (x8 + 1) _ hf _ _ _ hP hD hS (lv_sub hl [2, 3, 4, 5, 1, 6, 7, 0] rfl) hk
set_option maxHeartbeats 4000000 in
set_option maxRecDepth 100000 in
theorem w_G_reach_12_fwd {p : Program} {l : Launch} {e : Env} {s : State} {m : MethodId} {args : Array Value} {below : List Frame} {meth : Method} {c : Code} {Q : State → Prop} {A : Nat → Prop} {dC : Nat → ClassId} {dI : Nat → Nat → Nat} {cI cZ : ClassId} {ad : Nat → Nat} (hx : p.tables.exec = Jvm.exec) (hb : c.code = b_G_reach) (hml : c.maxLocals = 9) (hown : s.vm.findClass R_G = some m.cls) (hts : ∀ w ∈ gw, w.before args s = true) (hK : va_K (dC, dI) classes (gT cI cZ) s) (hA : ∀ q : Nat, s.heap.size ≤ q → A q) (x4 : Int32) (B : fg_A) (E : fg_A) (C : fg_A) (O : fg_A) (n : Int32) (F : fg_A) (L : fg_A) (V : fg_A) :
    ∀ (k : Nat) (x5 : Int32) (x6 : Int32) (x7 : Int32) (o : Int32), f_G_reach_12 B E O n x4 k x5 x6 x7 = some o → ∀ (H : Heap) (locs : List Loc) (ls : Array Slot), va_P (dC, dI) classes (gW cI cZ ad B E C O n F L V) H → va_D A (gW cI cZ ad B E C O n F L V) → va_S A s.heap H locs → lv_has ls 9 [(0, .ref (ad 0)), (1, .ref (ad 1)), (2, .ref (ad 2)), (4, .int x4), (5, .int x5), (6, .int x6), (7, .int x7)] →
    (∀ (H : Heap) (locs : List Loc) (ls : Array Slot), va_P (dC, dI) classes (gW cI cZ ad B E C O n F L V) H → va_D A (gW cI cZ ad B E C O n F L V) → va_S A s.heap H locs → lv_has ls 9 [(5, .int o)] → W p l e (headSpec w_G_reach rm_G_reach).room s m args below meth c H locs 0 0 Q (F0 m 100 ls [])) → W p l e (headSpec w_G_reach rm_G_reach).room s m args below meth c H locs 0 0 Q (F0 m 12 ls []) := by
  intro k
  induction k with
  | zero =>
    intro x5 x6 x7 o hf
    exact absurd (show none = some o from hf) (by simp)
  | succ k ih =>
    intro x5 x6 x7 o hf H locs ls hP hD hS hl hk
    rw [f_G_reach_12] at hf
    refine lv_iload hx hb d_G_reach_12 (lv_at hl 6 rfl) ?_
    refine lv_bipush (v := 28) hx hb d_G_reach_14 (by decide) ?_
    refine lv_icmp_ge (tgt := 100) hx hb d_G_reach_16 (by decide) (fun hc => ?_) (fun hc => ?_)
    · rw [if_pos hc] at hf
      cases hf
      exact hk _ _ _ hP hD hS (lv_sub hl [4] rfl)
    · rw [if_neg hc] at hf
      refine lv_iload hx hb d_G_reach_19 (lv_at hl 4 rfl) ?_
      refine lv_iload hx hb d_G_reach_21 (lv_at hl 5 rfl) ?_
      refine lv_icmp_eq (tgt := 100) hx hb d_G_reach_23 (by decide) (fun hc => ?_) (fun hc => ?_)
      · rw [if_pos hc] at hf
        cases hf
        exact hk _ _ _ hP hD hS (lv_sub hl [4] rfl)
      · rw [if_neg hc] at hf
        refine lv_iload hx hb d_G_reach_26 (lv_at hl 4 rfl) ?_
        refine lv_istore (lv' := [(6, .int x5), (0, .ref (ad 0)), (1, .ref (ad 1)), (2, .ref (ad 2)), (4, .int x4), (5, .int x5), (7, .int x7)]) hx hb d_G_reach_28 hl (by decide) rfl (fun ls hl => ?_)
        refine lv_iconst (v := 0) hx hb d_G_reach_30 (by decide) ?_
        refine lv_istore (lv' := [(8, .int 0), (6, .int x5), (0, .ref (ad 0)), (1, .ref (ad 1)), (2, .ref (ad 2)), (4, .int x4), (5, .int x5), (7, .int x7)]) hx hb d_G_reach_31 hl (by decide) rfl (fun ls hl => ?_)
        obtain ⟨o1, hco1, hf⟩ := fg_ob_some hf
        refine w_G_reach_33_fwd hx hb hml hown hts hK hA x4 x5 x7 B E C O n F L V fu x5 0 o1 hco1 _ _ _ hP hD hS (lv_sub hl [2, 3, 4, 5, 6, 1, 7, 0] rfl) (fun H locs ls hP hD hS hl => ?_)
        refine lv_iinc (v := x7 + 1) (lv' := [(7, .int (x7 + 1)), (0, .ref (ad 0)), (1, .ref (ad 1)), (2, .ref (ad 2)), (4, .int x4), (5, .int o1), (6, .int x5)]) hx hb d_G_reach_94 hl (k := 6) rfl rfl (by decide) rfl (fun ls hl => ?_)
        refine lv_goto (tgt := 12) hx hb d_G_reach_97 (by decide) ?_
        exact ih o1 x5 (x7 + 1) _ hf _ _ _ hP hD hS (lv_sub hl [1, 2, 3, 4, 5, 6, 0] rfl) hk
set_option maxHeartbeats 4000000 in
set_option maxRecDepth 100000 in
theorem c_G_reach_fwd (l : Launch) (dC : Nat → ClassId) (dI : Nat → Nat → Nat) (cI cZ : ClassId) (ad : Nat → Nat) (sz : Nat) (B : fg_A) (E : fg_A) (C : fg_A) (O : fg_A) (n : Int32) (F : fg_A) (L : fg_A) (V : fg_A) (p2 : Int32) (p3 : Int32) (o : Int32) (hf : f_G_reach B E O n p2 p3 = some o) : Met l y_G_reach w_G_reach rm_G_reach (gW_Pc dC dI cI cZ ad sz B E C O n F L V [.ref (ad 0), .ref (ad 1), .ref (ad 2), .int p2, .int p3]) (gW_Qi dC dI cI cZ ad (va_A (gW cI cZ ad B E C O n F L V) sz) B E C O n F L V o) 0 0 (va_A (gW cI cZ ad B E C O n F L V) sz) := by
  refine Met.ofW (cc := b_G_reach) (maxL := 9) (ret := (some .int)) (by decide) rfl ?_
  intro p e s m args below meth c s₁ Bd hml hv
  obtain ⟨rfl, hsz, hP, hK, hD0⟩ := hv
  have hx := Bd.exec
  have hb := Bd.bytes
  have hr := Bd.returns
  have hts := fun w h => atoms_spec (ws := w_G_reach) Bd.pre w (List.mem_cons_of_mem _ h)
  have hown : s.vm.findClass R_G = some m.cls := findClass_of_methodNamed Bd.named
  have hlocks := Bd.notSynchronized
  subst hsz
  have hD := hD0.self (sz := s.heap.size)
  generalize hAe : va_A (gW cI cZ ad B E C O n F L V) s.heap.size = A at hD ⊢
  have hA : ∀ q : Nat, s.heap.size ≤ q → A q := fun q h => by rw [← hAe]; exact Or.inr h
  have hS : va_S A s.heap s.heap [] := va_S.rf
  have hl := lv_entry ([.ref (ad 0), .ref (ad 1), .ref (ad 2), .int p2, .int p3]) (n := 9) (Nat.le_of_ble_eq_true rfl)
  rw [lg_entry_eq]
  generalize (lg_sl ([.ref (ad 0), .ref (ad 1), .ref (ad 2), .int p2, .int p3]) ++ List.replicate (9 - (lg_sl ([.ref (ad 0), .ref (ad 1), .ref (ad 2), .int p2, .int p3])).length) Slot.unset).toArray = ls at hl ⊢
  have hl : lv_has ls 9 [(0, .ref (ad 0)), (1, .ref (ad 1)), (2, .ref (ad 2)), (3, .int p2), (4, .int p3)] := hl
  have hE : ∀ (pc : Nat) (H : Heap) (locs : List Loc) (ls : Array Slot), va_P (dC, dI) classes (gW cI cZ ad B E C O n F L V) H → va_D A (gW cI cZ ad B E C O n F L V) → va_S A s.heap H locs → decode b_G_reach pc = .ok (.ireturn, 1) → W p l e (headSpec w_G_reach rm_G_reach).room s m ([.ref (ad 0), .ref (ad 1), .ref (ad 2), .int p2, .int p3] : List Value).toArray below meth c H locs 0 0 (MQ below (gW_Qi dC dI cI cZ ad A B E C O n F L V o) ([.ref (ad 0), .ref (ad 1), .ref (ad 2), .int p2, .int p3] : List Value).toArray s 0 0 A) (F0 m pc ls [.int o]) := fun pc H locs ls hP hD hS hd => W.iret (v := o) hx hb hr (fun t ht hW => ⟨⟨o, (), rfl, rfl, by rw [ht]; exact hP, va_K.moved hW.alike hK, hD⟩, hS.F ht⟩) hS.2.2 hd
  unfold f_G_reach at hf
  refine lv_iload_n hx hb d_G_reach_0 rfl (lv_at hl 3 rfl) ?_
  obtain ⟨o1, hco1, hf⟩ := fg_ob_some hf
  refine fg_r0 (W.runS (As := [.int p2]) (rest := []) ⟨hx, hb, hml, hown, hts⟩ (c_G_bit l p2 o1 hco1) (cwS 1 hts gs_G_78 rfl rfl rfl (by decide +kernel) ⟨Nat.le_of_ble_eq_true rfl, Nat.le_of_ble_eq_true rfl⟩) preEq rfl rfl hl.1 rfl (lv_room (Nat.le_of_ble_eq_true rfl)) d_G_reach_1 ⟨Nat.le_of_ble_eq_true rfl, Nat.le_of_ble_eq_true rfl⟩) ?_
  refine lv_istore (lv' := [(5, .int o1), (0, .ref (ad 0)), (1, .ref (ad 1)), (2, .ref (ad 2)), (3, .int p2), (4, .int p3)]) hx hb d_G_reach_4 hl (by decide) rfl (fun ls hl => ?_)
  refine lv_iconst (v := 0) hx hb d_G_reach_6 (by decide) ?_
  refine lv_istore (lv' := [(6, .int 0), (5, .int o1), (0, .ref (ad 0)), (1, .ref (ad 1)), (2, .ref (ad 2)), (3, .int p2), (4, .int p3)]) hx hb d_G_reach_7 hl (by decide) rfl (fun ls hl => ?_)
  refine lv_iconst (v := 0) hx hb d_G_reach_9 (by decide) ?_
  refine lv_istore (lv' := [(7, .int 0), (6, .int 0), (5, .int o1), (0, .ref (ad 0)), (1, .ref (ad 1)), (2, .ref (ad 2)), (3, .int p2), (4, .int p3)]) hx hb d_G_reach_10 hl (by decide) rfl (fun ls hl => ?_)
  obtain ⟨o2, hco2, hf⟩ := fg_ob_some hf
  refine w_G_reach_12_fwd hx hb hml hown hts hK hA p3 B E C O n F L V fu o1 0 0 o2 hco2 _ _ _ hP hD hS (lv_sub hl [3, 4, 5, 7, 2, 1, 0] rfl) (fun H locs ls hP hD hS hl => ?_)
  refine lv_iload hx hb d_G_reach_100 (lv_at hl 0 rfl) ?_
  cases hf
  exact hE _ _ _ _ hP hD hS d_G_reach_102
set_option maxHeartbeats 4000000 in
set_option maxRecDepth 100000 in
theorem w_G_reach_33_bwd {p : Program} {l : Launch} {e : Env} {s : State} {m : MethodId} {args : Array Value} {below : List Frame} {meth : Method} {c : Code} {Q : State → Prop} {A : Nat → Prop} {dC : Nat → ClassId} {dI : Nat → Nat → Nat} {cI cZ : ClassId} {ad : Nat → Nat} (hx : p.tables.exec = Jvm.exec) (hb : c.code = b_G_reach) (hml : c.maxLocals = 9) (hown : s.vm.findClass R_G = some m.cls) (hts : ∀ w ∈ gw, w.before args s = true) (hK : va_K (dC, dI) classes (gT cI cZ) s) (hA : ∀ q : Nat, s.heap.size ≤ q → A q) (x4 : Int32) (x6 : Int32) (x7 : Int32) (B : fg_A) (E : fg_A) (C : fg_A) (O : fg_A) (n : Int32) (F : fg_A) (L : fg_A) (V : fg_A) :
    ∀ (k : Nat) (x5 : Int32) (x8 : Int32) (o : Int32), f_G_reach_33 E B O n x4 x6 x7 k x5 x8 = some o → ∀ (H : Heap) (locs : List Loc) (ls : Array Slot), va_P (dC, dI) classes (gW cI cZ ad B E C O n F L V) H → va_D A (gW cI cZ ad B E C O n F L V) → va_S A s.heap H locs → lv_has ls 9 [(0, .ref (ad 0)), (1, .ref (ad 2)), (2, .ref (ad 1)), (4, .int x4), (5, .int x5), (6, .int x6), (7, .int x7), (8, .int x8)] →
    (∀ (H : Heap) (locs : List Loc) (ls : Array Slot), va_P (dC, dI) classes (gW cI cZ ad B E C O n F L V) H → va_D A (gW cI cZ ad B E C O n F L V) → va_S A s.heap H locs → lv_has ls 9 [(0, .ref (ad 0)), (1, .ref (ad 2)), (2, .ref (ad 1)), (4, .int x4), (5, .int o), (6, .int x6), (7, .int x7)] → W p l e (headSpec w_G_reach rm_G_reach).room s m args below meth c H locs 0 0 Q (F0 m 94 ls [])) → W p l e (headSpec w_G_reach rm_G_reach).room s m args below meth c H locs 0 0 Q (F0 m 33 ls []) := by
  intro k
  induction k with
  | zero =>
    intro x5 x8 o hf
    exact absurd (show none = some o from hf) (by simp)
  | succ k ih =>
    intro x5 x8 o hf H locs ls hP hD hS hl hk
    rw [f_G_reach_33] at hf
    refine lv_iload hx hb d_G_reach_33 (lv_at hl 7 rfl) ?_
    refine lv_aload_n hx hb d_G_reach_35 rfl (lv_at hl 0 rfl) ?_
    refine va_get (D := (dC, dI)) (ci := 0) (v := .int n) (C := R_G) (T := F_G) (N := 8) hx hb hts i_G hown hK hP 0 rfl rfl 4 (by decide) (hts _ fl_G_23) (fun _ h9 => h9) rfl d_G_reach_36 ?_
    refine lv_icmp_ge (tgt := 94) hx hb d_G_reach_39 (by decide) (fun hc => ?_) (fun hc => ?_)
    · rw [if_pos hc] at hf
      cases hf
      exact hk _ _ _ hP hD hS (lv_sub hl [0, 1, 2, 3, 4, 5, 6] rfl)
    · rw [if_neg hc] at hf
      refine lv_aload_n hx hb d_G_reach_42 rfl (lv_at hl 0 rfl) ?_
      refine va_get (D := (dC, dI)) (ci := 0) (v := .ref (ad 4)) (C := R_G) (T := F_G) (N := 8) hx hb hts i_G hown hK hP 0 rfl rfl 3 (by decide) (hts _ fl_G_19) (fun _ h9 => h9) rfl d_G_reach_43 ?_
      refine lv_iload hx hb d_G_reach_46 (lv_at hl 7 rfl) ?_
      obtain ⟨hi, hf⟩ := fg_og_some hf
      refine va_zald hx hb hK hP 4 1 rfl rfl (ix_in hi) d_G_reach_48 ?_
      refine lv_if_eq (tgt := 88) hx hb d_G_reach_49 (by decide) (fun hc => ?_) (fun hc => ?_)
      · rw [if_pos hc] at hf
        refine lv_iinc (v := x8 + 1) (lv' := [(8, .int (x8 + 1)), (0, .ref (ad 0)), (1, .ref (ad 2)), (2, .ref (ad 1)), (4, .int x4), (5, .int x5), (6, .int x6), (7, .int x7)]) hx hb d_G_reach_88 hl (k := 7) rfl rfl (by decide) rfl (fun ls hl => ?_)
        refine lv_goto (tgt := 33) hx hb d_G_reach_91 (by decide) ?_
        exact ih x5 (x8 + 1) _ hf _ _ _ hP hD hS (lv_sub hl [1, 2, 3, 4, 5, 6, 7, 0] rfl) hk
      · rw [if_neg hc] at hf
        refine lv_iload hx hb d_G_reach_52 (lv_at hl 4 rfl) ?_
        refine lv_aload_n hx hb d_G_reach_54 rfl (lv_at hl 1 rfl) ?_
        refine lv_iload hx hb d_G_reach_55 (lv_at hl 7 rfl) ?_
        obtain ⟨hi, hf⟩ := fg_og_some hf
        refine va_iald hx hb hK hP 2 0 rfl rfl (ix_in hi) d_G_reach_57 ?_
        obtain ⟨o1, hco1, hf⟩ := fg_ob_some hf
        refine fg_r0 (W.runS (As := [.int x5, .int (E x8.toNatClampNeg)]) (rest := []) ⟨hx, hb, hml, hown, hts⟩ (c_G_has l x5 (E x8.toNatClampNeg) o1 hco1) (cwS 2 hts gs_G_74 rfl rfl rfl (by decide +kernel) ⟨Nat.le_of_ble_eq_true rfl, Nat.le_of_ble_eq_true rfl⟩) preEq rfl rfl hl.1 rfl (lv_room (Nat.le_of_ble_eq_true rfl)) d_G_reach_58 ⟨Nat.le_of_ble_eq_true rfl, Nat.le_of_ble_eq_true rfl⟩) ?_
        refine lv_if_eq (tgt := 88) hx hb d_G_reach_61 (by decide) (fun hc => ?_) (fun hc => ?_)
        · rw [if_pos hc] at hf
          refine lv_iinc (v := x8 + 1) (lv' := [(8, .int (x8 + 1)), (0, .ref (ad 0)), (1, .ref (ad 2)), (2, .ref (ad 1)), (4, .int x4), (5, .int x5), (6, .int x6), (7, .int x7)]) hx hb d_G_reach_88 hl (k := 7) rfl rfl (by decide) rfl (fun ls hl => ?_)
          refine lv_goto (tgt := 33) hx hb d_G_reach_91 (by decide) ?_
          exact ih x5 (x8 + 1) _ hf _ _ _ hP hD hS (lv_sub hl [1, 2, 3, 4, 5, 6, 7, 0] rfl) hk
        · rw [if_neg hc] at hf
          refine lv_iload hx hb d_G_reach_64 (lv_at hl 3 rfl) ?_
          refine lv_aload_n hx hb d_G_reach_66 rfl (lv_at hl 2 rfl) ?_
          refine lv_iload hx hb d_G_reach_67 (lv_at hl 7 rfl) ?_
          obtain ⟨hi, hf⟩ := fg_og_some hf
          refine va_iald hx hb hK hP 1 0 rfl rfl (ix_in hi) d_G_reach_69 ?_
          obtain ⟨o2, hco2, hf⟩ := fg_ob_some hf
          refine fg_r0 (W.runS (As := [.int x4, .int (B x8.toNatClampNeg)]) (rest := []) ⟨hx, hb, hml, hown, hts⟩ (c_G_has l x4 (B x8.toNatClampNeg) o2 hco2) (cwS 2 hts gs_G_74 rfl rfl rfl (by decide +kernel) ⟨Nat.le_of_ble_eq_true rfl, Nat.le_of_ble_eq_true rfl⟩) preEq rfl rfl hl.1 rfl (lv_room (Nat.le_of_ble_eq_true rfl)) d_G_reach_70 ⟨Nat.le_of_ble_eq_true rfl, Nat.le_of_ble_eq_true rfl⟩) ?_
          refine lv_if_ne (tgt := 88) hx hb d_G_reach_73 (by decide) (fun hc => ?_) (fun hc => ?_)
          · rw [if_neg hc] at hf
            refine lv_iinc (v := x8 + 1) (lv' := [(8, .int (x8 + 1)), (0, .ref (ad 0)), (1, .ref (ad 2)), (2, .ref (ad 1)), (4, .int x4), (5, .int x5), (6, .int x6), (7, .int x7)]) hx hb d_G_reach_88 hl (k := 7) rfl rfl (by decide) rfl (fun ls hl => ?_)
            refine lv_goto (tgt := 33) hx hb d_G_reach_91 (by decide) ?_
            exact ih x5 (x8 + 1) _ hf _ _ _ hP hD hS (lv_sub hl [1, 2, 3, 4, 5, 6, 7, 0] rfl) hk
          · rw [if_pos hc] at hf
            refine lv_iload hx hb d_G_reach_76 (lv_at hl 4 rfl) ?_
            refine lv_aload_n hx hb d_G_reach_78 rfl (lv_at hl 2 rfl) ?_
            refine lv_iload hx hb d_G_reach_79 (lv_at hl 7 rfl) ?_
            obtain ⟨hi, hf⟩ := fg_og_some hf
            refine va_iald hx hb hK hP 1 0 rfl rfl (ix_in hi) d_G_reach_81 ?_
            obtain ⟨o3, hco3, hf⟩ := fg_ob_some hf
            refine fg_r0 (W.runS (As := [.int (B x8.toNatClampNeg)]) (rest := [.int x5]) ⟨hx, hb, hml, hown, hts⟩ (c_G_bit l (B x8.toNatClampNeg) o3 hco3) (cwS 1 hts gs_G_78 rfl rfl rfl (by decide +kernel) ⟨Nat.le_of_ble_eq_true rfl, Nat.le_of_ble_eq_true rfl⟩) preEq rfl rfl hl.1 rfl (lv_room (Nat.le_of_ble_eq_true rfl)) d_G_reach_82 ⟨Nat.le_of_ble_eq_true rfl, Nat.le_of_ble_eq_true rfl⟩) ?_
            refine lv_ior hx hb d_G_reach_85 ?_
            refine lv_istore (lv' := [(5, .int (x5 ||| o3)), (0, .ref (ad 0)), (1, .ref (ad 2)), (2, .ref (ad 1)), (4, .int x4), (6, .int x6), (7, .int x7), (8, .int x8)]) hx hb d_G_reach_86 hl (by decide) rfl (fun ls hl => ?_)
            refine lv_iinc (v := x8 + 1) (lv' := [(8, .int (x8 + 1)), (5, .int (x5 ||| o3)), (0, .ref (ad 0)), (1, .ref (ad 2)), (2, .ref (ad 1)), (4, .int x4), (6, .int x6), (7, .int x7)]) hx hb d_G_reach_88 hl (k := 7) rfl rfl (by decide) rfl (fun ls hl => ?_)
            refine lv_goto (tgt := 33) hx hb d_G_reach_91 (by decide) ?_
            exact ih (x5 ||| o3) (x8 + 1) _ hf _ _ _ hP hD hS (lv_sub hl [2, 3, 4, 5, 1, 6, 7, 0] rfl) hk
set_option maxHeartbeats 4000000 in
set_option maxRecDepth 100000 in
theorem w_G_reach_12_bwd {p : Program} {l : Launch} {e : Env} {s : State} {m : MethodId} {args : Array Value} {below : List Frame} {meth : Method} {c : Code} {Q : State → Prop} {A : Nat → Prop} {dC : Nat → ClassId} {dI : Nat → Nat → Nat} {cI cZ : ClassId} {ad : Nat → Nat} (hx : p.tables.exec = Jvm.exec) (hb : c.code = b_G_reach) (hml : c.maxLocals = 9) (hown : s.vm.findClass R_G = some m.cls) (hts : ∀ w ∈ gw, w.before args s = true) (hK : va_K (dC, dI) classes (gT cI cZ) s) (hA : ∀ q : Nat, s.heap.size ≤ q → A q) (x4 : Int32) (B : fg_A) (E : fg_A) (C : fg_A) (O : fg_A) (n : Int32) (F : fg_A) (L : fg_A) (V : fg_A) :
    ∀ (k : Nat) (x5 : Int32) (x6 : Int32) (x7 : Int32) (o : Int32), f_G_reach_12 E B O n x4 k x5 x6 x7 = some o → ∀ (H : Heap) (locs : List Loc) (ls : Array Slot), va_P (dC, dI) classes (gW cI cZ ad B E C O n F L V) H → va_D A (gW cI cZ ad B E C O n F L V) → va_S A s.heap H locs → lv_has ls 9 [(0, .ref (ad 0)), (1, .ref (ad 2)), (2, .ref (ad 1)), (4, .int x4), (5, .int x5), (6, .int x6), (7, .int x7)] →
    (∀ (H : Heap) (locs : List Loc) (ls : Array Slot), va_P (dC, dI) classes (gW cI cZ ad B E C O n F L V) H → va_D A (gW cI cZ ad B E C O n F L V) → va_S A s.heap H locs → lv_has ls 9 [(5, .int o)] → W p l e (headSpec w_G_reach rm_G_reach).room s m args below meth c H locs 0 0 Q (F0 m 100 ls [])) → W p l e (headSpec w_G_reach rm_G_reach).room s m args below meth c H locs 0 0 Q (F0 m 12 ls []) := by
  intro k
  induction k with
  | zero =>
    intro x5 x6 x7 o hf
    exact absurd (show none = some o from hf) (by simp)
  | succ k ih =>
    intro x5 x6 x7 o hf H locs ls hP hD hS hl hk
    rw [f_G_reach_12] at hf
    refine lv_iload hx hb d_G_reach_12 (lv_at hl 6 rfl) ?_
    refine lv_bipush (v := 28) hx hb d_G_reach_14 (by decide) ?_
    refine lv_icmp_ge (tgt := 100) hx hb d_G_reach_16 (by decide) (fun hc => ?_) (fun hc => ?_)
    · rw [if_pos hc] at hf
      cases hf
      exact hk _ _ _ hP hD hS (lv_sub hl [4] rfl)
    · rw [if_neg hc] at hf
      refine lv_iload hx hb d_G_reach_19 (lv_at hl 4 rfl) ?_
      refine lv_iload hx hb d_G_reach_21 (lv_at hl 5 rfl) ?_
      refine lv_icmp_eq (tgt := 100) hx hb d_G_reach_23 (by decide) (fun hc => ?_) (fun hc => ?_)
      · rw [if_pos hc] at hf
        cases hf
        exact hk _ _ _ hP hD hS (lv_sub hl [4] rfl)
      · rw [if_neg hc] at hf
        refine lv_iload hx hb d_G_reach_26 (lv_at hl 4 rfl) ?_
        refine lv_istore (lv' := [(6, .int x5), (0, .ref (ad 0)), (1, .ref (ad 2)), (2, .ref (ad 1)), (4, .int x4), (5, .int x5), (7, .int x7)]) hx hb d_G_reach_28 hl (by decide) rfl (fun ls hl => ?_)
        refine lv_iconst (v := 0) hx hb d_G_reach_30 (by decide) ?_
        refine lv_istore (lv' := [(8, .int 0), (6, .int x5), (0, .ref (ad 0)), (1, .ref (ad 2)), (2, .ref (ad 1)), (4, .int x4), (5, .int x5), (7, .int x7)]) hx hb d_G_reach_31 hl (by decide) rfl (fun ls hl => ?_)
        obtain ⟨o1, hco1, hf⟩ := fg_ob_some hf
        refine w_G_reach_33_bwd hx hb hml hown hts hK hA x4 x5 x7 B E C O n F L V fu x5 0 o1 hco1 _ _ _ hP hD hS (lv_sub hl [2, 3, 4, 5, 6, 1, 7, 0] rfl) (fun H locs ls hP hD hS hl => ?_)
        refine lv_iinc (v := x7 + 1) (lv' := [(7, .int (x7 + 1)), (0, .ref (ad 0)), (1, .ref (ad 2)), (2, .ref (ad 1)), (4, .int x4), (5, .int o1), (6, .int x5)]) hx hb d_G_reach_94 hl (k := 6) rfl rfl (by decide) rfl (fun ls hl => ?_)
        refine lv_goto (tgt := 12) hx hb d_G_reach_97 (by decide) ?_
        exact ih o1 x5 (x7 + 1) _ hf _ _ _ hP hD hS (lv_sub hl [1, 2, 3, 4, 5, 6, 0] rfl) hk
set_option maxHeartbeats 4000000 in
set_option maxRecDepth 100000 in
theorem c_G_reach_bwd (l : Launch) (dC : Nat → ClassId) (dI : Nat → Nat → Nat) (cI cZ : ClassId) (ad : Nat → Nat) (sz : Nat) (B : fg_A) (E : fg_A) (C : fg_A) (O : fg_A) (n : Int32) (F : fg_A) (L : fg_A) (V : fg_A) (p2 : Int32) (p3 : Int32) (o : Int32) (hf : f_G_reach E B O n p2 p3 = some o) : Met l y_G_reach w_G_reach rm_G_reach (gW_Pc dC dI cI cZ ad sz B E C O n F L V [.ref (ad 0), .ref (ad 2), .ref (ad 1), .int p2, .int p3]) (gW_Qi dC dI cI cZ ad (va_A (gW cI cZ ad B E C O n F L V) sz) B E C O n F L V o) 0 0 (va_A (gW cI cZ ad B E C O n F L V) sz) := by
  refine Met.ofW (cc := b_G_reach) (maxL := 9) (ret := (some .int)) (by decide) rfl ?_
  intro p e s m args below meth c s₁ Bd hml hv
  obtain ⟨rfl, hsz, hP, hK, hD0⟩ := hv
  have hx := Bd.exec
  have hb := Bd.bytes
  have hr := Bd.returns
  have hts := fun w h => atoms_spec (ws := w_G_reach) Bd.pre w (List.mem_cons_of_mem _ h)
  have hown : s.vm.findClass R_G = some m.cls := findClass_of_methodNamed Bd.named
  have hlocks := Bd.notSynchronized
  subst hsz
  have hD := hD0.self (sz := s.heap.size)
  generalize hAe : va_A (gW cI cZ ad B E C O n F L V) s.heap.size = A at hD ⊢
  have hA : ∀ q : Nat, s.heap.size ≤ q → A q := fun q h => by rw [← hAe]; exact Or.inr h
  have hS : va_S A s.heap s.heap [] := va_S.rf
  have hl := lv_entry ([.ref (ad 0), .ref (ad 2), .ref (ad 1), .int p2, .int p3]) (n := 9) (Nat.le_of_ble_eq_true rfl)
  rw [lg_entry_eq]
  generalize (lg_sl ([.ref (ad 0), .ref (ad 2), .ref (ad 1), .int p2, .int p3]) ++ List.replicate (9 - (lg_sl ([.ref (ad 0), .ref (ad 2), .ref (ad 1), .int p2, .int p3])).length) Slot.unset).toArray = ls at hl ⊢
  have hl : lv_has ls 9 [(0, .ref (ad 0)), (1, .ref (ad 2)), (2, .ref (ad 1)), (3, .int p2), (4, .int p3)] := hl
  have hE : ∀ (pc : Nat) (H : Heap) (locs : List Loc) (ls : Array Slot), va_P (dC, dI) classes (gW cI cZ ad B E C O n F L V) H → va_D A (gW cI cZ ad B E C O n F L V) → va_S A s.heap H locs → decode b_G_reach pc = .ok (.ireturn, 1) → W p l e (headSpec w_G_reach rm_G_reach).room s m ([.ref (ad 0), .ref (ad 2), .ref (ad 1), .int p2, .int p3] : List Value).toArray below meth c H locs 0 0 (MQ below (gW_Qi dC dI cI cZ ad A B E C O n F L V o) ([.ref (ad 0), .ref (ad 2), .ref (ad 1), .int p2, .int p3] : List Value).toArray s 0 0 A) (F0 m pc ls [.int o]) := fun pc H locs ls hP hD hS hd => W.iret (v := o) hx hb hr (fun t ht hW => ⟨⟨o, (), rfl, rfl, by rw [ht]; exact hP, va_K.moved hW.alike hK, hD⟩, hS.F ht⟩) hS.2.2 hd
  unfold f_G_reach at hf
  refine lv_iload_n hx hb d_G_reach_0 rfl (lv_at hl 3 rfl) ?_
  obtain ⟨o1, hco1, hf⟩ := fg_ob_some hf
  refine fg_r0 (W.runS (As := [.int p2]) (rest := []) ⟨hx, hb, hml, hown, hts⟩ (c_G_bit l p2 o1 hco1) (cwS 1 hts gs_G_78 rfl rfl rfl (by decide +kernel) ⟨Nat.le_of_ble_eq_true rfl, Nat.le_of_ble_eq_true rfl⟩) preEq rfl rfl hl.1 rfl (lv_room (Nat.le_of_ble_eq_true rfl)) d_G_reach_1 ⟨Nat.le_of_ble_eq_true rfl, Nat.le_of_ble_eq_true rfl⟩) ?_
  refine lv_istore (lv' := [(5, .int o1), (0, .ref (ad 0)), (1, .ref (ad 2)), (2, .ref (ad 1)), (3, .int p2), (4, .int p3)]) hx hb d_G_reach_4 hl (by decide) rfl (fun ls hl => ?_)
  refine lv_iconst (v := 0) hx hb d_G_reach_6 (by decide) ?_
  refine lv_istore (lv' := [(6, .int 0), (5, .int o1), (0, .ref (ad 0)), (1, .ref (ad 2)), (2, .ref (ad 1)), (3, .int p2), (4, .int p3)]) hx hb d_G_reach_7 hl (by decide) rfl (fun ls hl => ?_)
  refine lv_iconst (v := 0) hx hb d_G_reach_9 (by decide) ?_
  refine lv_istore (lv' := [(7, .int 0), (6, .int 0), (5, .int o1), (0, .ref (ad 0)), (1, .ref (ad 2)), (2, .ref (ad 1)), (3, .int p2), (4, .int p3)]) hx hb d_G_reach_10 hl (by decide) rfl (fun ls hl => ?_)
  obtain ⟨o2, hco2, hf⟩ := fg_ob_some hf
  refine w_G_reach_12_bwd hx hb hml hown hts hK hA p3 B E C O n F L V fu o1 0 0 o2 hco2 _ _ _ hP hD hS (lv_sub hl [3, 4, 5, 7, 2, 1, 0] rfl) (fun H locs ls hP hD hS hl => ?_)
  refine lv_iload hx hb d_G_reach_100 (lv_at hl 0 rfl) ?_
  cases hf
  exact hE _ _ _ _ hP hD hS d_G_reach_102
