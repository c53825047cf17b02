set_option maxHeartbeats 4000000 in
set_option maxRecDepth 100000 in
theorem w_G_cutRule_33 {p : Program} {l : Launch} {e : Env} {s : State} {m : MethodId} {args : Array Value} {below : List Frame} {meth : Method} {c : Code} {Q : State → Prop} {A : Nat → Prop} {dC : Nat → ClassId} {dI : Nat → Nat → Nat} {cI cZ : ClassId} {ad : Nat → Nat} (hx : p.tables.exec = Jvm.exec) (hb : c.code = b_G_cutRule) (hml : c.maxLocals = 7) (hown : s.vm.findClass R_G = some m.cls) (hts : ∀ w ∈ gw, w.before args s = true) (hK : va_K (dC, dI) classes (gT cI cZ) s) (hA : ∀ q : Nat, s.heap.size ≤ q → A q) (x3 : Int32) (x4 : Int32) (B : fg_A) (E : fg_A) (C : fg_A) (O : fg_A) (n : Int32) (F : fg_A) (L : fg_A) (V : fg_A) :
    ∀ (k : Nat) (x5 : Int32) (x6 : Int32) (o : Int32 × fg_A × fg_A), f_G_cutRule_33 B E C O n L V x3 x4 k x5 x6 = some o → ∀ (H : Heap) (locs : List Loc) (ls : Array Slot), va_P (dC, dI) classes (gW cI cZ ad B E C O n F L V) H → va_D A (gW cI cZ ad B E C O n F L V) → va_S A s.heap H locs → lv_has ls 7 [(0, .ref (ad 0)), (3, .int x3), (4, .int x4), (5, .int x5), (6, .int x6)] →
    (∀ (pc : Nat) (H : Heap) (locs : List Loc) (ls : Array Slot), va_P (dC, dI) classes (gW cI cZ ad B E C O n F o.2.1 o.2.2) H → va_D A (gW cI cZ ad B E C O n F o.2.1 o.2.2) → va_S A s.heap H locs → decode b_G_cutRule pc = .ok (.ireturn, 1) → W p l e (headSpec w_G_cutRule rm_G_cutRule).room s m args below meth c H locs 0 0 Q (F0 m pc ls [.int o.1])) → W p l e (headSpec w_G_cutRule rm_G_cutRule).room s m args below meth c H locs 0 0 Q (F0 m 33 ls []) := by
  intro k
  induction k with
  | zero =>
    intro x5 x6 o hf
    exact absurd (show none = some o from hf) (by simp)
  | succ k ih =>
    intro x5 x6 o hf H locs ls hP hD hS hl hE
    rw [f_G_cutRule_33] at hf
    refine lv_iload hx hb d_G_cutRule_33 (lv_at hl 4 rfl) ?_
    refine lv_aload_n hx hb d_G_cutRule_35 rfl (lv_at hl 0 rfl) ?_
    refine va_get (D := (dC, dI)) (ci := 0) (v := .int n) (C := R_G) (T := F_G) (N := 8) hx hb hts i_G hown hK hP 0 rfl rfl 4 (by decide) (hts _ fl_G_23) (fun _ h9 => h9) rfl d_G_cutRule_36 ?_
    refine lv_icmp_ge (tgt := 71) hx hb d_G_cutRule_39 (by decide) (fun hc => ?_) (fun hc => ?_)
    · rw [if_pos hc] at hf
      refine lv_iconst (v := (-1)) hx hb d_G_cutRule_71 (by decide) ?_
      cases hf
      exact hE _ _ _ _ hP hD hS d_G_cutRule_72
    · rw [if_neg hc] at hf
      refine lv_aload_n hx hb d_G_cutRule_42 rfl (lv_at hl 0 rfl) ?_
      refine lv_iload hx hb d_G_cutRule_43 (lv_at hl 4 rfl) ?_
      refine lv_iload hx hb d_G_cutRule_45 (lv_at hl 2 rfl) ?_
      obtain ⟨o1, hco1, hf⟩ := fg_ob_some hf
      refine fgG_i (va_runV (As := [.int x6, .int x4]) (rest := []) ⟨hx, hb, hml, hown, hts⟩ (c_G_leaves l dC dI cI cZ ad _ B E C O n F L V x6 x4 o1 hco1) (cwV 2 hts gv_G_91 rfl rfl rfl (by decide +kernel) ⟨Nat.le_of_ble_eq_true rfl, Nat.le_of_ble_eq_true rfl⟩) (gW_pre hK hP hD) rfl rfl hl.1 rfl (lv_room (Nat.le_of_ble_eq_true rfl)) d_G_cutRule_47 ⟨Nat.le_of_ble_eq_true rfl, Nat.le_of_ble_eq_true rfl⟩) hP hD hS hA (fun H locs hP hD hS => ?_)
      refine lv_if_eq (tgt := 65) hx hb d_G_cutRule_50 (by decide) (fun hc => ?_) (fun hc => ?_)
      · rw [if_pos hc] at hf
        refine lv_iinc (v := x6 + 1) (lv' := [(6, .int (x6 + 1)), (0, .ref (ad 0)), (3, .int x3), (4, .int x4), (5, .int x5)]) hx hb d_G_cutRule_65 hl (k := 4) rfl rfl (by decide) rfl (fun ls hl => ?_)
        refine lv_goto (tgt := 33) hx hb d_G_cutRule_68 (by decide) ?_
        exact ih x5 (x6 + 1) _ hf _ _ _ hP hD hS (lv_sub hl [1, 2, 3, 4, 0] rfl) hE
      · rw [if_neg hc] at hf
        refine lv_iload hx hb d_G_cutRule_53 (lv_at hl 3 rfl) ?_
        refine lv_iload_n hx hb d_G_cutRule_55 rfl (lv_at hl 1 rfl) ?_
        refine lv_icmp_ne (tgt := 62) hx hb d_G_cutRule_56 (by decide) (fun hc => ?_) (fun hc => ?_)
        · rw [if_neg hc] at hf
          refine lv_iinc (v := x5 + 1) (lv' := [(5, .int (x5 + 1)), (0, .ref (ad 0)), (3, .int x3), (4, .int x4), (6, .int x6)]) hx hb d_G_cutRule_62 hl (k := 3) rfl rfl (by decide) rfl (fun ls hl => ?_)
          refine lv_iinc (v := x6 + 1) (lv' := [(6, .int (x6 + 1)), (5, .int (x5 + 1)), (0, .ref (ad 0)), (3, .int x3), (4, .int x4)]) hx hb d_G_cutRule_65 hl (k := 4) rfl rfl (by decide) rfl (fun ls hl => ?_)
          refine lv_goto (tgt := 33) hx hb d_G_cutRule_68 (by decide) ?_
          exact ih (x5 + 1) (x6 + 1) _ hf _ _ _ hP hD hS (lv_sub hl [2, 3, 4, 1, 0] rfl) hE
        · rw [if_pos hc] at hf
          refine lv_iload hx hb d_G_cutRule_59 (lv_at hl 4 rfl) ?_
          cases hf
          exact hE _ _ _ _ hP hD hS d_G_cutRule_61
set_option maxHeartbeats 4000000 in
set_option maxRecDepth 100000 in
theorem c_G_cutRule (l : Launch) (dC : Nat → ClassId) (dI : Nat → Nat → Nat) (cI cZ : ClassId) (ad : Nat → Nat) (sz : Nat) (B : fg_A) (E : fg_A) (C : fg_A) (O : fg_A) (n : Int32) (F : fg_A) (L : fg_A) (V : fg_A) (p0 : Int32) (p1 : Int32) (p2 : Int32) (o : Int32 × fg_A × fg_A) (hf : f_G_cutRule B E C O n L V p0 p1 p2 = some o) : Met l y_G_cutRule w_G_cutRule rm_G_cutRule (gW_Pc dC dI cI cZ ad sz B E C O n F L V [.ref (ad 0), .int p0, .int p1, .int p2]) (gW_Qi dC dI cI cZ ad (va_A (gW cI cZ ad B E C O n F L V) sz) B E C O n F o.2.1 o.2.2 o.1) 0 0 (va_A (gW cI cZ ad B E C O n F L V) sz) := by
  refine Met.ofW (cc := b_G_cutRule) (maxL := 7) (ret := (some .int)) (by decide) rfl ?_
  intro p e s m args below meth c s₁ Bd hml hv
  obtain ⟨rfl, hsz, hP, hK, hD0⟩ := hv
  have hx := Bd.exec
  have hb := Bd.bytes
  have hr := Bd.returns
  have hts := fun w h => atoms_spec (ws := w_G_cutRule) Bd.pre w (List.mem_cons_of_mem _ h)
  have hown : s.vm.findClass R_G = some m.cls := findClass_of_methodNamed Bd.named
  have hlocks := Bd.notSynchronized
  subst hsz
  have hD := hD0.self (sz := s.heap.size)
  generalize hAe : va_A (gW cI cZ ad B E C O n F L V) s.heap.size = A at hD ⊢
  have hA : ∀ q : Nat, s.heap.size ≤ q → A q := fun q h => by rw [← hAe]; exact Or.inr h
  have hS : va_S A s.heap s.heap [] := va_S.rf
  have hl := lv_entry ([.ref (ad 0), .int p0, .int p1, .int p2]) (n := 7) (Nat.le_of_ble_eq_true rfl)
  rw [lg_entry_eq]
  generalize (lg_sl ([.ref (ad 0), .int p0, .int p1, .int p2]) ++ List.replicate (7 - (lg_sl ([.ref (ad 0), .int p0, .int p1, .int p2])).length) Slot.unset).toArray = ls at hl ⊢
  have hl : lv_has ls 7 [(0, .ref (ad 0)), (1, .int p0), (2, .int p1), (3, .int p2)] := hl
  have hE : ∀ (pc : Nat) (H : Heap) (locs : List Loc) (ls : Array Slot), va_P (dC, dI) classes (gW cI cZ ad B E C O n F o.2.1 o.2.2) H → va_D A (gW cI cZ ad B E C O n F o.2.1 o.2.2) → va_S A s.heap H locs → decode b_G_cutRule pc = .ok (.ireturn, 1) → W p l e (headSpec w_G_cutRule rm_G_cutRule).room s m ([.ref (ad 0), .int p0, .int p1, .int p2] : List Value).toArray below meth c H locs 0 0 (MQ below (gW_Qi dC dI cI cZ ad A B E C O n F o.2.1 o.2.2 o.1) ([.ref (ad 0), .int p0, .int p1, .int p2] : List Value).toArray s 0 0 A) (F0 m pc ls [.int o.1]) := fun pc H locs ls hP hD hS hd => W.iret (v := o.1) hx hb hr (fun t ht hW => ⟨⟨o.1, (), rfl, rfl, by rw [ht]; exact hP, va_K.moved hW.alike hK, hD⟩, hS.F ht⟩) hS.2.2 hd
  unfold f_G_cutRule at hf
  refine lv_iload_n hx hb d_G_cutRule_0 rfl (lv_at hl 1 rfl) ?_
  refine lv_iload_n hx hb d_G_cutRule_1 rfl (lv_at hl 2 rfl) ?_
  obtain ⟨o1, hco1, hf⟩ := fg_ob_some hf
  refine fg_v0 (W.runS (As := [.int p0, .int p1]) (rest := []) ⟨hx, hb, hml, hown, hts⟩ (c_G_needUnlikeNodes l p0 p1 hco1) (cwS 2 hts gs_G_36 rfl rfl rfl (by decide +kernel) ⟨Nat.le_of_ble_eq_true rfl, Nat.le_of_ble_eq_true rfl⟩) preEq rfl rfl hl.1 rfl (lv_room (Nat.le_of_ble_eq_true rfl)) d_G_cutRule_2 ⟨Nat.le_of_ble_eq_true rfl, Nat.le_of_ble_eq_true rfl⟩) ?_
  refine lv_iload_n hx hb d_G_cutRule_5 rfl (lv_at hl 3 rfl) ?_
  refine lv_if_ge (tgt := 19) hx hb d_G_cutRule_6 (by decide) (fun hc => ?_) (fun hc => ?_)
  · rw [if_pos hc] at hf
    refine lv_aload_n hx hb d_G_cutRule_19 rfl (lv_at hl 0 rfl) ?_
    refine lv_iload_n hx hb d_G_cutRule_20 rfl (lv_at hl 1 rfl) ?_
    refine lv_iload_n hx hb d_G_cutRule_21 rfl (lv_at hl 2 rfl) ?_
    obtain ⟨o2, hco2, hf⟩ := fg_ob_some hf
    refine fgG_i (va_runV (As := [.int p0, .int p1]) (rest := []) ⟨hx, hb, hml, hown, hts⟩ (c_G_nearSide l dC dI cI cZ ad _ B E C O n F L V p0 p1 o2 hco2) (cwV 2 hts gv_G_88 rfl rfl rfl (by decide +kernel) ⟨Nat.le_of_ble_eq_true rfl, Nat.le_of_ble_eq_true rfl⟩) (gW_pre hK hP hD) rfl rfl hl.1 rfl (lv_room (Nat.le_of_ble_eq_true rfl)) d_G_cutRule_22 ⟨Nat.le_of_ble_eq_true rfl, Nat.le_of_ble_eq_true rfl⟩) hP hD hS hA (fun H locs hP hD hS => ?_)
    refine lv_istore (lv' := [(4, .int o2.1), (0, .ref (ad 0)), (1, .int p0), (2, .int p1), (3, .int p2)]) hx hb d_G_cutRule_25 hl (by decide) rfl (fun ls hl => ?_)
    refine lv_iconst (v := 0) hx hb d_G_cutRule_27 (by decide) ?_
    refine lv_istore (lv' := [(5, .int 0), (4, .int o2.1), (0, .ref (ad 0)), (1, .int p0), (2, .int p1), (3, .int p2)]) hx hb d_G_cutRule_28 hl (by decide) rfl (fun ls hl => ?_)
    refine lv_iconst (v := 0) hx hb d_G_cutRule_30 (by decide) ?_
    refine lv_istore (lv' := [(6, .int 0), (5, .int 0), (4, .int o2.1), (0, .ref (ad 0)), (1, .int p0), (2, .int p1), (3, .int p2)]) hx hb d_G_cutRule_31 hl (by decide) rfl (fun ls hl => ?_)
    exact w_G_cutRule_33 hx hb hml hown hts hK hA p2 o2.1 B E C O n F o2.2.1 o2.2.2 fu 0 0 _ hf _ _ _ hP hD hS (lv_sub hl [3, 6, 2, 1, 0] rfl) hE
  · rw [if_neg hc] at hf
    cases hf
set_option maxHeartbeats 4000000 in
set_option maxRecDepth 100000 in
theorem c_G_left (l : Launch) (dC : Nat → ClassId) (dI : Nat → Nat → Nat) (cI cZ : ClassId) (ad : Nat → Nat) (sz : Nat) (B : fg_A) (E : fg_A) (C : fg_A) (O : fg_A) (n : Int32) (F : fg_A) (L : fg_A) (V : fg_A) (p0 : Int32) (p1 : Int32) (o : Int32 × fg_A × fg_A) (hf : f_G_left B E C O n L V p0 p1 = some o) : Met l y_G_left w_G_left rm_G_left (gW_Pc dC dI cI cZ ad sz B E C O n F L V [.ref (ad 0), .int p0, .int p1]) (gW_Qi dC dI cI cZ ad (va_A (gW cI cZ ad B E C O n F L V) sz) B E C O n F o.2.1 o.2.2 o.1) 0 0 (va_A (gW cI cZ ad B E C O n F L V) sz) := by
  refine Met.ofW (cc := b_G_left) (maxL := 3) (ret := (some .int)) (by decide) rfl ?_
  intro p e s m args below meth c s₁ Bd hml hv
  obtain ⟨rfl, hsz, hP, hK, hD0⟩ := hv
  have hx := Bd.exec
  have hb := Bd.bytes
  have hr := Bd.returns
  have hts := fun w h => atoms_spec (ws := w_G_left) Bd.pre w (List.mem_cons_of_mem _ h)
  have hown : s.vm.findClass R_G = some m.cls := findClass_of_methodNamed Bd.named
  have hlocks := Bd.notSynchronized
  subst hsz
  have hD := hD0.self (sz := s.heap.size)
  generalize hAe : va_A (gW cI cZ ad B E C O n F L V) s.heap.size = A at hD ⊢
  have hA : ∀ q : Nat, s.heap.size ≤ q → A q := fun q h => by rw [← hAe]; exact Or.inr h
  have hS : va_S A s.heap s.heap [] := va_S.rf
  have hl := lv_entry ([.ref (ad 0), .int p0, .int p1]) (n := 3) (Nat.le_of_ble_eq_true rfl)
  rw [lg_entry_eq]
  generalize (lg_sl ([.ref (ad 0), .int p0, .int p1]) ++ List.replicate (3 - (lg_sl ([.ref (ad 0), .int p0, .int p1])).length) Slot.unset).toArray = ls at hl ⊢
  have hl : lv_has ls 3 [(0, .ref (ad 0)), (1, .int p0), (2, .int p1)] := hl
  have hE : ∀ (pc : Nat) (H : Heap) (locs : List Loc) (ls : Array Slot), va_P (dC, dI) classes (gW cI cZ ad B E C O n F o.2.1 o.2.2) H → va_D A (gW cI cZ ad B E C O n F o.2.1 o.2.2) → va_S A s.heap H locs → decode b_G_left pc = .ok (.ireturn, 1) → W p l e (headSpec w_G_left rm_G_left).room s m ([.ref (ad 0), .int p0, .int p1] : List Value).toArray below meth c H locs 0 0 (MQ below (gW_Qi dC dI cI cZ ad A B E C O n F o.2.1 o.2.2 o.1) ([.ref (ad 0), .int p0, .int p1] : List Value).toArray s 0 0 A) (F0 m pc ls [.int o.1]) := fun pc H locs ls hP hD hS hd => W.iret (v := o.1) hx hb hr (fun t ht hW => ⟨⟨o.1, (), rfl, rfl, by rw [ht]; exact hP, va_K.moved hW.alike hK, hD⟩, hS.F ht⟩) hS.2.2 hd
  unfold f_G_left at hf
  refine lv_iload_n hx hb d_G_left_0 rfl (lv_at hl 1 rfl) ?_
  refine lv_iload_n hx hb d_G_left_1 rfl (lv_at hl 2 rfl) ?_
  obtain ⟨o1, hco1, hf⟩ := fg_ob_some hf
  refine fg_v0 (W.runS (As := [.int p0, .int p1]) (rest := []) ⟨hx, hb, hml, hown, hts⟩ (c_G_needUnlikeNodes l p0 p1 hco1) (cwS 2 hts gs_G_36 rfl rfl rfl (by decide +kernel) ⟨Nat.le_of_ble_eq_true rfl, Nat.le_of_ble_eq_true rfl⟩) preEq rfl rfl hl.1 rfl (lv_room (Nat.le_of_ble_eq_true rfl)) d_G_left_2 ⟨Nat.le_of_ble_eq_true rfl, Nat.le_of_ble_eq_true rfl⟩) ?_
  refine lv_aload_n hx hb d_G_left_5 rfl (lv_at hl 0 rfl) ?_
  refine lv_iload_n hx hb d_G_left_6 rfl (lv_at hl 1 rfl) ?_
  refine lv_iload_n hx hb d_G_left_7 rfl (lv_at hl 2 rfl) ?_
  obtain ⟨o2, hco2, hf⟩ := fg_ob_some hf
  refine fgG_i (va_runV (As := [.int p0, .int p1]) (rest := []) ⟨hx, hb, hml, hown, hts⟩ (c_G_nearSide l dC dI cI cZ ad _ B E C O n F L V p0 p1 o2 hco2) (cwV 2 hts gv_G_88 rfl rfl rfl (by decide +kernel) ⟨Nat.le_of_ble_eq_true rfl, Nat.le_of_ble_eq_true rfl⟩) (gW_pre hK hP hD) rfl rfl hl.1 rfl (lv_room (Nat.le_of_ble_eq_true rfl)) d_G_left_8 ⟨Nat.le_of_ble_eq_true rfl, Nat.le_of_ble_eq_true rfl⟩) hP hD hS hA (fun H locs hP hD hS => ?_)
  cases hf
  exact hE _ _ _ _ hP hD hS d_G_left_11
