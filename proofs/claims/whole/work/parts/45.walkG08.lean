set_option maxHeartbeats 4000000 in
set_option maxRecDepth 100000 in
theorem w_G_nearSide_2 {p : Program} {l : Launch} {e : Env} {s : State} {m : MethodId} {args : Array Value} {below : List Frame} {meth : Method} {c : Code} {Q : State → Prop} {A : Nat → Prop} {dC : Nat → ClassId} {dI : Nat → Nat → Nat} {cI cZ : ClassId} {ad : Nat → Nat} (hx : p.tables.exec = Jvm.exec) (hb : c.code = b_G_nearSide) (hml : c.maxLocals = 5) (hown : s.vm.findClass R_G = some m.cls) (hts : ∀ w ∈ gw, w.before args s = true) (hK : va_K (dC, dI) classes (gT cI cZ) s) (hA : ∀ q : Nat, s.heap.size ≤ q → A q) (x1 : Int32) (x2 : Int32) (B : fg_A) (E : fg_A) (C : fg_A) (O : fg_A) (n : Int32) (F : fg_A) (V : fg_A) :
    ∀ (k : Nat) (x3 : Int32) (L : fg_A) (o : fg_A), f_G_nearSide_2 n x1 x2 k x3 L = some o → ∀ (H : Heap) (locs : List Loc) (ls : Array Slot), va_P (dC, dI) classes (gW cI cZ ad B E C O n F L V) H → va_D A (gW cI cZ ad B E C O n F L V) → va_S A s.heap H locs → lv_has ls 5 [(0, .ref (ad 0)), (1, .int x1), (2, .int x2), (3, .int x3)] →
    (∀ (H : Heap) (locs : List Loc) (ls : Array Slot), va_P (dC, dI) classes (gW cI cZ ad B E C O n F o V) H → va_D A (gW cI cZ ad B E C O n F o V) → va_S A s.heap H locs → lv_has ls 5 [(0, .ref (ad 0)), (1, .int x1), (2, .int x2)] → W p l e (headSpec w_G_nearSide rm_G_nearSide).room s m args below meth c H locs 0 0 Q (F0 m 23 ls [])) → W p l e (headSpec w_G_nearSide rm_G_nearSide).room s m args below meth c H locs 0 0 Q (F0 m 2 ls []) := by
  intro k
  induction k with
  | zero =>
    intro x3 L o hf
    exact absurd (show none = some o from hf) (by simp)
  | succ k ih =>
    intro x3 L o hf H locs ls hP hD hS hl hk
    rw [f_G_nearSide_2] at hf
    refine lv_iload_n hx hb d_G_nearSide_2 rfl (lv_at hl 3 rfl) ?_
    refine lv_aload_n hx hb d_G_nearSide_3 rfl (lv_at hl 0 rfl) ?_
    refine va_get (D := (dC, dI)) (ci := 0) (v := .int n) (C := R_G) (T := F_G) (N := 8) hx hb hts i_G hown hK hP 0 rfl rfl 4 (by decide) (hts _ fl_G_23) (fun _ h9 => h9) rfl d_G_nearSide_4 ?_
    refine lv_icmp_ge (tgt := 23) hx hb d_G_nearSide_7 (by decide) (fun hc => ?_) (fun hc => ?_)
    · rw [if_pos hc] at hf
      cases hf
      exact hk _ _ _ hP hD hS (lv_sub hl [0, 1, 2] rfl)
    · rw [if_neg hc] at hf
      refine lv_aload_n hx hb d_G_nearSide_10 rfl (lv_at hl 0 rfl) ?_
      refine va_get (D := (dC, dI)) (ci := 0) (v := .ref (ad 6)) (C := R_G) (T := F_G) (N := 8) hx hb hts i_G hown hK hP 0 rfl rfl 6 (by decide) (hts _ fl_G_30) (fun _ h9 => h9) rfl d_G_nearSide_11 ?_
      refine lv_iload_n hx hb d_G_nearSide_14 rfl (lv_at hl 3 rfl) ?_
      refine lv_iconst (v := 0) hx hb d_G_nearSide_15 (by decide) ?_
      obtain ⟨hi, hf⟩ := fg_og_some hf
      refine va_iast hx hb hK hP hD hS 6 0 rfl rfl (ix_in hi) d_G_nearSide_16 (fun H locs hP hD hS => ?_)
      have hP : va_P (dC, dI) classes (gW cI cZ ad B E C O n F (upd L x3.toNatClampNeg 0) V) H := hP
      have hD : va_D A (gW cI cZ ad B E C O n F (upd L x3.toNatClampNeg 0) V) := hD
      refine lv_iinc (v := x3 + 1) (lv' := [(3, .int (x3 + 1)), (0, .ref (ad 0)), (1, .int x1), (2, .int x2)]) hx hb d_G_nearSide_17 hl (k := 3) rfl rfl (by decide) rfl (fun ls hl => ?_)
      refine lv_goto (tgt := 2) hx hb d_G_nearSide_20 (by decide) ?_
      exact ih (x3 + 1) (upd L x3.toNatClampNeg 0) _ hf _ _ _ hP hD hS (lv_sub hl [1, 2, 3, 0] rfl) hk
set_option maxHeartbeats 4000000 in
set_option maxRecDepth 100000 in
theorem w_G_nearSide_33 {p : Program} {l : Launch} {e : Env} {s : State} {m : MethodId} {args : Array Value} {below : List Frame} {meth : Method} {c : Code} {Q : State → Prop} {A : Nat → Prop} {dC : Nat → ClassId} {dI : Nat → Nat → Nat} {cI cZ : ClassId} {ad : Nat → Nat} (hx : p.tables.exec = Jvm.exec) (hb : c.code = b_G_nearSide) (hml : c.maxLocals = 5) (hown : s.vm.findClass R_G = some m.cls) (hts : ∀ w ∈ gw, w.before args s = true) (hK : va_K (dC, dI) classes (gT cI cZ) s) (hA : ∀ q : Nat, s.heap.size ≤ q → A q) (x1 : Int32) (x2 : Int32) (B : fg_A) (E : fg_A) (C : fg_A) (O : fg_A) (n : Int32) (F : fg_A) :
    ∀ (k : Nat) (x3 : Int32) (x4 : Int32) (L : fg_A) (V : fg_A) (o : Int32 × fg_A × fg_A), f_G_nearSide_33 B E C O n x1 x2 k x3 x4 L V = some o → ∀ (H : Heap) (locs : List Loc) (ls : Array Slot), va_P (dC, dI) classes (gW cI cZ ad B E C O n F L V) H → va_D A (gW cI cZ ad B E C O n F L V) → va_S A s.heap H locs → lv_has ls 5 [(0, .ref (ad 0)), (1, .int x1), (2, .int x2), (3, .int x3), (4, .int x4)] →
    (∀ (H : Heap) (locs : List Loc) (ls : Array Slot), va_P (dC, dI) classes (gW cI cZ ad B E C O n F o.2.1 o.2.2) H → va_D A (gW cI cZ ad B E C O n F o.2.1 o.2.2) → va_S A s.heap H locs → lv_has ls 5 [(3, .int o.1)] → W p l e (headSpec w_G_nearSide rm_G_nearSide).room s m args below meth c H locs 0 0 Q (F0 m 68 ls [])) → W p l e (headSpec w_G_nearSide rm_G_nearSide).room s m args below meth c H locs 0 0 Q (F0 m 33 ls []) := by
  intro k
  induction k with
  | zero =>
    intro x3 x4 L V o hf
    exact absurd (show none = some o from hf) (by simp)
  | succ k ih =>
    intro x3 x4 L V o hf H locs ls hP hD hS hl hk
    rw [f_G_nearSide_33] at hf
    refine lv_iload hx hb d_G_nearSide_33 (lv_at hl 4 rfl) ?_
    refine lv_sipush (v := 810) hx hb d_G_nearSide_35 (by decide) ?_
    refine lv_icmp_ge (tgt := 68) hx hb d_G_nearSide_38 (by decide) (fun hc => ?_) (fun hc => ?_)
    · rw [if_pos hc] at hf
      cases hf
      exact hk _ _ _ hP hD hS (lv_sub hl [3] rfl)
    · rw [if_neg hc] at hf
      refine lv_iload_n hx hb d_G_nearSide_41 rfl (lv_at hl 3 rfl) ?_
      refine lv_iload_n hx hb d_G_nearSide_42 rfl (lv_at hl 2 rfl) ?_
      obtain ⟨o1, hco1, hf⟩ := fg_ob_some hf
      refine fg_r0 (W.runS (As := [.int x3, .int x2]) (rest := []) ⟨hx, hb, hml, hown, hts⟩ (c_G_has l x3 x2 o1 hco1) (cwS 2 hts gs_G_74 rfl rfl rfl (by decide +kernel) ⟨Nat.le_of_ble_eq_true rfl, Nat.le_of_ble_eq_true rfl⟩) preEq rfl rfl hl.1 rfl (lv_room (Nat.le_of_ble_eq_true rfl)) d_G_nearSide_43 ⟨Nat.le_of_ble_eq_true rfl, Nat.le_of_ble_eq_true rfl⟩) ?_
      refine lv_if_eq (tgt := 68) hx hb d_G_nearSide_46 (by decide) (fun hc => ?_) (fun hc => ?_)
      · rw [if_pos hc] at hf
        cases hf
        exact hk _ _ _ hP hD hS (lv_sub hl [3] rfl)
      · rw [if_neg hc] at hf
        refine lv_aload_n hx hb d_G_nearSide_49 rfl (lv_at hl 0 rfl) ?_
        refine lv_iload_n hx hb d_G_nearSide_50 rfl (lv_at hl 1 rfl) ?_
        refine lv_iload_n hx hb d_G_nearSide_51 rfl (lv_at hl 2 rfl) ?_
        obtain ⟨o2, hco2, hf⟩ := fg_ob_some hf
        refine fgG_v (va_runV (As := [.int x1, .int x2]) (rest := []) ⟨hx, hb, hml, hown, hts⟩ (c_G_pushAlong l dC dI cI cZ ad _ B E C O n F L V x1 x2 o2 hco2) (cwV 2 hts gv_G_110 rfl rfl rfl (by decide +kernel) ⟨Nat.le_of_ble_eq_true rfl, Nat.le_of_ble_eq_true rfl⟩) (gW_pre hK hP hD) rfl rfl hl.1 rfl (lv_room (Nat.le_of_ble_eq_true rfl)) d_G_nearSide_52 ⟨Nat.le_of_ble_eq_true rfl, Nat.le_of_ble_eq_true rfl⟩) hP hD hS hA (fun H locs hP hD hS => ?_)
        refine lv_aload_n hx hb d_G_nearSide_55 rfl (lv_at hl 0 rfl) ?_
        refine lv_iload_n hx hb d_G_nearSide_56 rfl (lv_at hl 1 rfl) ?_
        refine lv_iload_n hx hb d_G_nearSide_57 rfl (lv_at hl 2 rfl) ?_
        obtain ⟨o3, hco3, hf⟩ := fg_ob_some hf
        refine fgG_i (va_runV (As := [.int x1, .int x2]) (rest := []) ⟨hx, hb, hml, hown, hts⟩ (c_G_spread l dC dI cI cZ ad _ B E C O n F o2 V x1 x2 o3 hco3) (cwV 2 hts gv_G_107 rfl rfl rfl (by decide +kernel) ⟨Nat.le_of_ble_eq_true rfl, Nat.le_of_ble_eq_true rfl⟩) (gW_pre hK hP hD) rfl rfl hl.1 rfl (lv_room (Nat.le_of_ble_eq_true rfl)) d_G_nearSide_58 ⟨Nat.le_of_ble_eq_true rfl, Nat.le_of_ble_eq_true rfl⟩) hP hD hS hA (fun H locs hP hD hS => ?_)
        refine lv_istore_n (lv' := [(3, .int o3.1), (0, .ref (ad 0)), (1, .int x1), (2, .int x2), (4, .int x4)]) hx hb d_G_nearSide_61 rfl hl (by decide) rfl (fun ls hl => ?_)
        refine lv_iinc (v := x4 + 1) (lv' := [(4, .int (x4 + 1)), (3, .int o3.1), (0, .ref (ad 0)), (1, .int x1), (2, .int x2)]) hx hb d_G_nearSide_62 hl (k := 4) rfl rfl (by decide) rfl (fun ls hl => ?_)
        refine lv_goto (tgt := 33) hx hb d_G_nearSide_65 (by decide) ?_
        exact ih o3.1 (x4 + 1) o2 o3.2 _ hf _ _ _ hP hD hS (lv_sub hl [2, 3, 4, 1, 0] rfl) hk
set_option maxHeartbeats 4000000 in
set_option maxRecDepth 100000 in
theorem c_G_nearSide (l : Launch) (dC : Nat → ClassId) (dI : Nat → Nat → Nat) (cI cZ : ClassId) (ad : Nat → Nat) (sz : Nat) (B : fg_A) (E : fg_A) (C : fg_A) (O : fg_A) (n : Int32) (F : fg_A) (L : fg_A) (V : fg_A) (p0 : Int32) (p1 : Int32) (o : Int32 × fg_A × fg_A) (hf : f_G_nearSide B E C O n L V p0 p1 = some o) : Met l y_G_nearSide w_G_nearSide rm_G_nearSide (gW_Pc dC dI cI cZ ad sz B E C O n F L V [.ref (ad 0), .int p0, .int p1]) (gW_Qi dC dI cI cZ ad (va_A (gW cI cZ ad B E C O n F L V) sz) B E C O n F o.2.1 o.2.2 o.1) 0 0 (va_A (gW cI cZ ad B E C O n F L V) sz) := by
  refine Met.ofW (cc := b_G_nearSide) (maxL := 5) (ret := (some .int)) (by decide) rfl ?_
  intro p e s m args below meth c s₁ Bd hml hv
  obtain ⟨rfl, hsz, hP, hK, hD0⟩ := hv
  have hx := Bd.exec
  have hb := Bd.bytes
  have hr := Bd.returns
  have hts := fun w h => atoms_spec (ws := w_G_nearSide) Bd.pre w (List.mem_cons_of_mem _ h)
  have hown : s.vm.findClass R_G = some m.cls := findClass_of_methodNamed Bd.named
  have hlocks := Bd.notSynchronized
  subst hsz
  have hD := hD0.self (sz := s.heap.size)
  generalize hAe : va_A (gW cI cZ ad B E C O n F L V) s.heap.size = A at hD ⊢
  have hA : ∀ q : Nat, s.heap.size ≤ q → A q := fun q h => by rw [← hAe]; exact Or.inr h
  have hS : va_S A s.heap s.heap [] := va_S.rf
  have hl := lv_entry ([.ref (ad 0), .int p0, .int p1]) (n := 5) (Nat.le_of_ble_eq_true rfl)
  rw [lg_entry_eq]
  generalize (lg_sl ([.ref (ad 0), .int p0, .int p1]) ++ List.replicate (5 - (lg_sl ([.ref (ad 0), .int p0, .int p1])).length) Slot.unset).toArray = ls at hl ⊢
  have hl : lv_has ls 5 [(0, .ref (ad 0)), (1, .int p0), (2, .int p1)] := hl
  have hE : ∀ (pc : Nat) (H : Heap) (locs : List Loc) (ls : Array Slot), va_P (dC, dI) classes (gW cI cZ ad B E C O n F o.2.1 o.2.2) H → va_D A (gW cI cZ ad B E C O n F o.2.1 o.2.2) → va_S A s.heap H locs → decode b_G_nearSide pc = .ok (.ireturn, 1) → W p l e (headSpec w_G_nearSide rm_G_nearSide).room s m ([.ref (ad 0), .int p0, .int p1] : List Value).toArray below meth c H locs 0 0 (MQ below (gW_Qi dC dI cI cZ ad A B E C O n F o.2.1 o.2.2 o.1) ([.ref (ad 0), .int p0, .int p1] : List Value).toArray s 0 0 A) (F0 m pc ls [.int o.1]) := fun pc H locs ls hP hD hS hd => W.iret (v := o.1) hx hb hr (fun t ht hW => ⟨⟨o.1, (), rfl, rfl, by rw [ht]; exact hP, va_K.moved hW.alike hK, hD⟩, hS.F ht⟩) hS.2.2 hd
  unfold f_G_nearSide at hf
  refine lv_iconst (v := 0) hx hb d_G_nearSide_0 (by decide) ?_
  refine lv_istore_n (lv' := [(3, .int 0), (0, .ref (ad 0)), (1, .int p0), (2, .int p1)]) hx hb d_G_nearSide_1 rfl hl (by decide) rfl (fun ls hl => ?_)
  obtain ⟨o1, hco1, hf⟩ := fg_ob_some hf
  refine w_G_nearSide_2 hx hb hml hown hts hK hA p0 p1 B E C O n F V fu 0 L o1 hco1 _ _ _ hP hD hS (lv_sub hl [1, 2, 3, 0] rfl) (fun H locs ls hP hD hS hl => ?_)
  refine lv_aload_n hx hb d_G_nearSide_23 rfl (lv_at hl 0 rfl) ?_
  refine lv_iload_n hx hb d_G_nearSide_24 rfl (lv_at hl 1 rfl) ?_
  refine lv_iload_n hx hb d_G_nearSide_25 rfl (lv_at hl 2 rfl) ?_
  obtain ⟨o2, hco2, hf⟩ := fg_ob_some hf
  refine fgG_i (va_runV (As := [.int p0, .int p1]) (rest := []) ⟨hx, hb, hml, hown, hts⟩ (c_G_spread l dC dI cI cZ ad _ B E C O n F o1 V p0 p1 o2 hco2) (cwV 2 hts gv_G_107 rfl rfl rfl (by decide +kernel) ⟨Nat.le_of_ble_eq_true rfl, Nat.le_of_ble_eq_true rfl⟩) (gW_pre hK hP hD) rfl rfl hl.1 rfl (lv_room (Nat.le_of_ble_eq_true rfl)) d_G_nearSide_26 ⟨Nat.le_of_ble_eq_true rfl, Nat.le_of_ble_eq_true rfl⟩) hP hD hS hA (fun H locs hP hD hS => ?_)
  refine lv_istore_n (lv' := [(3, .int o2.1), (0, .ref (ad 0)), (1, .int p0), (2, .int p1)]) hx hb d_G_nearSide_29 rfl hl (by decide) rfl (fun ls hl => ?_)
  refine lv_iconst (v := 0) hx hb d_G_nearSide_30 (by decide) ?_
  refine lv_istore (lv' := [(4, .int 0), (3, .int o2.1), (0, .ref (ad 0)), (1, .int p0), (2, .int p1)]) hx hb d_G_nearSide_31 hl (by decide) rfl (fun ls hl => ?_)
  obtain ⟨o3, hco3, hf⟩ := fg_ob_some hf
  refine w_G_nearSide_33 hx hb hml hown hts hK hA p0 p1 B E C O n F fu o2.1 0 o1 o2.2 o3 hco3 _ _ _ hP hD hS (lv_sub hl [2, 3, 4, 1, 0] rfl) (fun H locs ls hP hD hS hl => ?_)
  refine lv_iload_n hx hb d_G_nearSide_68 rfl (lv_at hl 0 rfl) ?_
  cases hf
  exact hE _ _ _ _ hP hD hS d_G_nearSide_69
set_option maxHeartbeats 4000000 in
set_option maxRecDepth 100000 in
theorem w_G_cut_18 {p : Program} {l : Launch} {e : Env} {s : State} {m : MethodId} {args : Array Value} {below : List Frame} {meth : Method} {c : Code} {Q : State → Prop} {A : Nat → Prop} {dC : Nat → ClassId} {dI : Nat → Nat → Nat} {cI cZ : ClassId} {ad : Nat → Nat} (hx : p.tables.exec = Jvm.exec) (hb : c.code = b_G_cut) (hml : c.maxLocals = 6) (hown : s.vm.findClass R_G = some m.cls) (hts : ∀ w ∈ gw, w.before args s = true) (hK : va_K (dC, dI) classes (gT cI cZ) s) (hA : ∀ q : Nat, s.heap.size ≤ q → A q) (x3 : Int32) (B : fg_A) (E : fg_A) (C : fg_A) (O : fg_A) (n : Int32) (F : fg_A) (L : fg_A) (V : fg_A) :
    ∀ (k : Nat) (x4 : Int32) (x5 : Int32) (o : Int32), f_G_cut_18 B E C O n x3 k x4 x5 = some o → ∀ (H : Heap) (locs : List Loc) (ls : Array Slot), va_P (dC, dI) classes (gW cI cZ ad B E C O n F L V) H → va_D A (gW cI cZ ad B E C O n F L V) → va_S A s.heap H locs → lv_has ls 6 [(0, .ref (ad 0)), (3, .int x3), (4, .int x4), (5, .int x5)] →
    (∀ (H : Heap) (locs : List Loc) (ls : Array Slot), va_P (dC, dI) classes (gW cI cZ ad B E C O n F L V) H → va_D A (gW cI cZ ad B E C O n F L V) → va_S A s.heap H locs → lv_has ls 6 [(4, .int o)] → W p l e (headSpec w_G_cut rm_G_cut).room s m args below meth c H locs 0 0 Q (F0 m 55 ls [])) → W p l e (headSpec w_G_cut rm_G_cut).room s m args below meth c H locs 0 0 Q (F0 m 18 ls []) := by
  intro k
  induction k with
  | zero =>
    intro x4 x5 o hf
    exact absurd (show none = some o from hf) (by simp)
  | succ k ih =>
    intro x4 x5 o hf H locs ls hP hD hS hl hk
    rw [f_G_cut_18] at hf
    refine lv_iload hx hb d_G_cut_18 (lv_at hl 3 rfl) ?_
    refine lv_aload_n hx hb d_G_cut_20 rfl (lv_at hl 0 rfl) ?_
    refine va_get (D := (dC, dI)) (ci := 0) (v := .int n) (C := R_G) (T := F_G) (N := 8) hx hb hts i_G hown hK hP 0 rfl rfl 4 (by decide) (hts _ fl_G_23) (fun _ h9 => h9) rfl d_G_cut_21 ?_
    refine lv_icmp_ge (tgt := 55) hx hb d_G_cut_24 (by decide) (fun hc => ?_) (fun hc => ?_)
    · rw [if_pos hc] at hf
      cases hf
      exact hk _ _ _ hP hD hS (lv_sub hl [2] rfl)
    · rw [if_neg hc] at hf
      refine lv_aload_n hx hb d_G_cut_27 rfl (lv_at hl 0 rfl) ?_
      refine lv_iload hx hb d_G_cut_28 (lv_at hl 3 rfl) ?_
      refine lv_iload_n hx hb d_G_cut_30 rfl (lv_at hl 1 rfl) ?_
      obtain ⟨o1, hco1, hf⟩ := fg_ob_some hf
      refine fgG_i (va_runV (As := [.int x5, .int x3]) (rest := []) ⟨hx, hb, hml, hown, hts⟩ (c_G_leaves l dC dI cI cZ ad _ B E C O n F L V x5 x3 o1 hco1) (cwV 2 hts gv_G_91 rfl rfl rfl (by decide +kernel) ⟨Nat.le_of_ble_eq_true rfl, Nat.le_of_ble_eq_true rfl⟩) (gW_pre hK hP hD) rfl rfl hl.1 rfl (lv_room (Nat.le_of_ble_eq_true rfl)) d_G_cut_31 ⟨Nat.le_of_ble_eq_true rfl, Nat.le_of_ble_eq_true rfl⟩) hP hD hS hA (fun H locs hP hD hS => ?_)
      refine lv_if_eq (tgt := 49) hx hb d_G_cut_34 (by decide) (fun hc => ?_) (fun hc => ?_)
      · rw [if_pos hc] at hf
        refine lv_iinc (v := x5 + 1) (lv' := [(5, .int (x5 + 1)), (0, .ref (ad 0)), (3, .int x3), (4, .int x4)]) hx hb d_G_cut_49 hl (k := 3) rfl rfl (by decide) rfl (fun ls hl => ?_)
        refine lv_goto (tgt := 18) hx hb d_G_cut_52 (by decide) ?_
        exact ih x4 (x5 + 1) _ hf _ _ _ hP hD hS (lv_sub hl [1, 2, 3, 0] rfl) hk
      · rw [if_neg hc] at hf
        refine lv_iload hx hb d_G_cut_37 (lv_at hl 2 rfl) ?_
        refine lv_aload_n hx hb d_G_cut_39 rfl (lv_at hl 0 rfl) ?_
        refine va_get (D := (dC, dI)) (ci := 0) (v := .ref (ad 3)) (C := R_G) (T := F_G) (N := 8) hx hb hts i_G hown hK hP 0 rfl rfl 2 (by decide) (hts _ fl_G_16) (fun _ h9 => h9) rfl d_G_cut_40 ?_
        refine lv_iload hx hb d_G_cut_43 (lv_at hl 3 rfl) ?_
        obtain ⟨hi, hf⟩ := fg_og_some hf
        refine va_iald hx hb hK hP 3 0 rfl rfl (ix_in hi) d_G_cut_45 ?_
        refine lv_iadd hx hb d_G_cut_46 ?_
        refine lv_istore (lv' := [(4, .int (x4 + (C x5.toNatClampNeg))), (0, .ref (ad 0)), (3, .int x3), (5, .int x5)]) hx hb d_G_cut_47 hl (by decide) rfl (fun ls hl => ?_)
        refine lv_iinc (v := x5 + 1) (lv' := [(5, .int (x5 + 1)), (4, .int (x4 + (C x5.toNatClampNeg))), (0, .ref (ad 0)), (3, .int x3)]) hx hb d_G_cut_49 hl (k := 3) rfl rfl (by decide) rfl (fun ls hl => ?_)
        refine lv_goto (tgt := 18) hx hb d_G_cut_52 (by decide) ?_
        exact ih (x4 + (C x5.toNatClampNeg)) (x5 + 1) _ hf _ _ _ hP hD hS (lv_sub hl [2, 3, 1, 0] rfl) hk
set_option maxHeartbeats 4000000 in
set_option maxRecDepth 100000 in
theorem c_G_cut (l : Launch) (dC : Nat → ClassId) (dI : Nat → Nat → Nat) (cI cZ : ClassId) (ad : Nat → Nat) (sz : Nat) (B : fg_A) (E : fg_A) (C : fg_A) (O : fg_A) (n : Int32) (F : fg_A) (L : fg_A) (V : fg_A) (p0 : Int32) (p1 : Int32) (o : Int32 × fg_A × fg_A) (hf : f_G_cut B E C O n L V p0 p1 = some o) : Met l y_G_cut w_G_cut rm_G_cut (gW_Pc dC dI cI cZ ad sz B E C O n F L V [.ref (ad 0), .int p0, .int p1]) (gW_Qi dC dI cI cZ ad (va_A (gW cI cZ ad B E C O n F L V) sz) B E C O n F o.2.1 o.2.2 o.1) 0 0 (va_A (gW cI cZ ad B E C O n F L V) sz) := by
  refine Met.ofW (cc := b_G_cut) (maxL := 6) (ret := (some .int)) (by decide) rfl ?_
  intro p e s m args below meth c s₁ Bd hml hv
  obtain ⟨rfl, hsz, hP, hK, hD0⟩ := hv
  have hx := Bd.exec
  have hb := Bd.bytes
  have hr := Bd.returns
  have hts := fun w h => atoms_spec (ws := w_G_cut) Bd.pre w (List.mem_cons_of_mem _ h)
  have hown : s.vm.findClass R_G = some m.cls := findClass_of_methodNamed Bd.named
  have hlocks := Bd.notSynchronized
  subst hsz
  have hD := hD0.self (sz := s.heap.size)
  generalize hAe : va_A (gW cI cZ ad B E C O n F L V) s.heap.size = A at hD ⊢
  have hA : ∀ q : Nat, s.heap.size ≤ q → A q := fun q h => by rw [← hAe]; exact Or.inr h
  have hS : va_S A s.heap s.heap [] := va_S.rf
  have hl := lv_entry ([.ref (ad 0), .int p0, .int p1]) (n := 6) (Nat.le_of_ble_eq_true rfl)
  rw [lg_entry_eq]
  generalize (lg_sl ([.ref (ad 0), .int p0, .int p1]) ++ List.replicate (6 - (lg_sl ([.ref (ad 0), .int p0, .int p1])).length) Slot.unset).toArray = ls at hl ⊢
  have hl : lv_has ls 6 [(0, .ref (ad 0)), (1, .int p0), (2, .int p1)] := hl
  have hE : ∀ (pc : Nat) (H : Heap) (locs : List Loc) (ls : Array Slot), va_P (dC, dI) classes (gW cI cZ ad B E C O n F o.2.1 o.2.2) H → va_D A (gW cI cZ ad B E C O n F o.2.1 o.2.2) → va_S A s.heap H locs → decode b_G_cut pc = .ok (.ireturn, 1) → W p l e (headSpec w_G_cut rm_G_cut).room s m ([.ref (ad 0), .int p0, .int p1] : List Value).toArray below meth c H locs 0 0 (MQ below (gW_Qi dC dI cI cZ ad A B E C O n F o.2.1 o.2.2 o.1) ([.ref (ad 0), .int p0, .int p1] : List Value).toArray s 0 0 A) (F0 m pc ls [.int o.1]) := fun pc H locs ls hP hD hS hd => W.iret (v := o.1) hx hb hr (fun t ht hW => ⟨⟨o.1, (), rfl, rfl, by rw [ht]; exact hP, va_K.moved hW.alike hK, hD⟩, hS.F ht⟩) hS.2.2 hd
  unfold f_G_cut at hf
  refine lv_iload_n hx hb d_G_cut_0 rfl (lv_at hl 1 rfl) ?_
  refine lv_iload_n hx hb d_G_cut_1 rfl (lv_at hl 2 rfl) ?_
  obtain ⟨o1, hco1, hf⟩ := fg_ob_some hf
  refine fg_v0 (W.runS (As := [.int p0, .int p1]) (rest := []) ⟨hx, hb, hml, hown, hts⟩ (c_G_needUnlikeNodes l p0 p1 hco1) (cwS 2 hts gs_G_36 rfl rfl rfl (by decide +kernel) ⟨Nat.le_of_ble_eq_true rfl, Nat.le_of_ble_eq_true rfl⟩) preEq rfl rfl hl.1 rfl (lv_room (Nat.le_of_ble_eq_true rfl)) d_G_cut_2 ⟨Nat.le_of_ble_eq_true rfl, Nat.le_of_ble_eq_true rfl⟩) ?_
  refine lv_aload_n hx hb d_G_cut_5 rfl (lv_at hl 0 rfl) ?_
  refine lv_iload_n hx hb d_G_cut_6 rfl (lv_at hl 1 rfl) ?_
  refine lv_iload_n hx hb d_G_cut_7 rfl (lv_at hl 2 rfl) ?_
  obtain ⟨o2, hco2, hf⟩ := fg_ob_some hf
  refine fgG_i (va_runV (As := [.int p0, .int p1]) (rest := []) ⟨hx, hb, hml, hown, hts⟩ (c_G_nearSide l dC dI cI cZ ad _ B E C O n F L V p0 p1 o2 hco2) (cwV 2 hts gv_G_88 rfl rfl rfl (by decide +kernel) ⟨Nat.le_of_ble_eq_true rfl, Nat.le_of_ble_eq_true rfl⟩) (gW_pre hK hP hD) rfl rfl hl.1 rfl (lv_room (Nat.le_of_ble_eq_true rfl)) d_G_cut_8 ⟨Nat.le_of_ble_eq_true rfl, Nat.le_of_ble_eq_true rfl⟩) hP hD hS hA (fun H locs hP hD hS => ?_)
  refine lv_istore_n (lv' := [(3, .int o2.1), (0, .ref (ad 0)), (1, .int p0), (2, .int p1)]) hx hb d_G_cut_11 rfl hl (by decide) rfl (fun ls hl => ?_)
  refine lv_iconst (v := 0) hx hb d_G_cut_12 (by decide) ?_
  refine lv_istore (lv' := [(4, .int 0), (3, .int o2.1), (0, .ref (ad 0)), (1, .int p0), (2, .int p1)]) hx hb d_G_cut_13 hl (by decide) rfl (fun ls hl => ?_)
  refine lv_iconst (v := 0) hx hb d_G_cut_15 (by decide) ?_
  refine lv_istore (lv' := [(5, .int 0), (4, .int 0), (3, .int o2.1), (0, .ref (ad 0)), (1, .int p0), (2, .int p1)]) hx hb d_G_cut_16 hl (by decide) rfl (fun ls hl => ?_)
  obtain ⟨o3, hco3, hf⟩ := fg_ob_some hf
  refine w_G_cut_18 hx hb hml hown hts hK hA o2.1 B E C O n F o2.2.1 o2.2.2 fu 0 0 o3 hco3 _ _ _ hP hD hS (lv_sub hl [3, 2, 1, 0] rfl) (fun H locs ls hP hD hS hl => ?_)
  refine lv_iload hx hb d_G_cut_55 (lv_at hl 0 rfl) ?_
  cases hf
  exact hE _ _ _ _ hP hD hS d_G_cut_57
