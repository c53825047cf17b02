set_option maxHeartbeats 4000000 in
set_option maxRecDepth 100000 in
theorem w_M_before_10 {p : Program} {l : Launch} {e : Env} {s : State} {m : MethodId} {args : Array Value} {below : List Frame} {meth : Method} {c : Code} {Q : State → Prop} {A : Nat → Prop} {dC : Nat → ClassId} {dI : Nat → Nat → Nat} {cI cZ : ClassId} {ad : Nat → Nat} (hx : p.tables.exec = Jvm.exec) (hb : c.code = b_M_before) (hml : c.maxLocals = 4) (hown : s.vm.findClass R_M = some m.cls) (hts : ∀ w ∈ gw, w.before args s = true) (hK : va_K (dC, dI) classes (gT cI cZ) s) (hA : ∀ q : Nat, s.heap.size ≤ q → A q) (t : Int32) (n : Int32) (B : fg_A) (E : fg_A) (C : fg_A) (O : fg_A) (F : fg_A) (L : fg_A) (V : fg_A) :
    ∀ (k : Nat) (x2 : Int32) (x3 : Int32) (o : Int32), f_M_before_10 F k x2 x3 = some o → ∀ (H : Heap) (locs : List Loc) (ls : Array Slot), va_P (dC, dI) classes (mW cI cZ ad t n B E C O F L V) H → va_D A (mW cI cZ ad t n B E C O F L V) → va_S A s.heap H locs → lv_has ls 4 [(0, .ref (ad 0)), (2, .int x2), (3, .int x3)] →
    (∀ (H : Heap) (locs : List Loc) (ls : Array Slot), va_P (dC, dI) classes (mW cI cZ ad t n B E C O F L V) H → va_D A (mW cI cZ ad t n B E C O F L V) → va_S A s.heap H locs → lv_has ls 4 [(2, .int o)] → W p l e (headSpec w_M_before rm_M_before).room s m args below meth c H locs 0 0 Q (F0 m 41 ls [])) → W p l e (headSpec w_M_before rm_M_before).room s m args below meth c H locs 0 0 Q (F0 m 10 ls []) := by
  intro k
  induction k with
  | zero =>
    intro x2 x3 o hf
    exact absurd (show none = some o from hf) (by simp)
  | succ k ih =>
    intro x2 x3 o hf H locs ls hP hD hS hl hk
    rw [f_M_before_10] at hf
    refine lv_iload_n hx hb d_M_before_10 rfl (lv_at hl 2 rfl) ?_
    refine lv_bipush (v := 28) hx hb d_M_before_11 (by decide) ?_
    refine lv_icmp_ge (tgt := 41) hx hb d_M_before_13 (by decide) (fun hc => ?_) (fun hc => ?_)
    · rw [if_pos hc] at hf
      cases hf
      exact hk _ _ _ hP hD hS (lv_sub hl [1] rfl)
    · rw [if_neg hc] at hf
      refine lv_aload_n hx hb d_M_before_16 rfl (lv_at hl 0 rfl) ?_
      refine va_get (D := (dC, dI)) (ci := 1) (v := .ref (ad 5)) (C := R_M) (T := F_M) (N := 9) hx hb hts i_M hown hK hP 0 rfl rfl 6 (by decide) (hts _ fl_M_23) (fun _ h9 => h9) rfl d_M_before_17 ?_
      refine lv_iload_n hx hb d_M_before_20 rfl (lv_at hl 2 rfl) ?_
      obtain ⟨hi, hf⟩ := fg_og_some hf
      refine va_iald hx hb hK hP 5 0 rfl rfl (ix_in hi) d_M_before_21 ?_
      refine lv_if_lt (tgt := 33) hx hb d_M_before_22 (by decide) (fun hc => ?_) (fun hc => ?_)
      · rw [if_pos hc] at hf
        refine lv_iload_n hx hb d_M_before_33 rfl (lv_at hl 1 rfl) ?_
        refine lv_istore_n (lv' := [(2, .int x2), (0, .ref (ad 0)), (3, .int x3)]) hx hb d_M_before_34 rfl hl (by decide) rfl (fun ls hl => ?_)
        refine lv_iinc (v := x3 + 1) (lv' := [(3, .int (x3 + 1)), (2, .int x2), (0, .ref (ad 0))]) hx hb d_M_before_35 hl (k := 2) rfl rfl (by decide) rfl (fun ls hl => ?_)
        refine lv_goto (tgt := 10) hx hb d_M_before_38 (by decide) ?_
        exact ih x2 (x3 + 1) _ hf _ _ _ hP hD hS (lv_sub hl [2, 1, 0] rfl) hk
      · rw [if_neg hc] at hf
        refine lv_iload_n hx hb d_M_before_25 rfl (lv_at hl 1 rfl) ?_
        refine lv_iconst (v := 1) hx hb d_M_before_26 (by decide) ?_
        refine lv_iload_n hx hb d_M_before_27 rfl (lv_at hl 2 rfl) ?_
        refine lv_ishl hx hb d_M_before_28 ?_
        refine lv_ior hx hb d_M_before_29 ?_
        refine lv_goto (tgt := 34) hx hb d_M_before_30 (by decide) ?_
        refine lv_istore_n (lv' := [(2, .int (x2 ||| (1 <<< (x3 &&& 31)))), (0, .ref (ad 0)), (3, .int x3)]) hx hb d_M_before_34 rfl hl (by decide) rfl (fun ls hl => ?_)
        refine lv_iinc (v := x3 + 1) (lv' := [(3, .int (x3 + 1)), (2, .int (x2 ||| (1 <<< (x3 &&& 31)))), (0, .ref (ad 0))]) hx hb d_M_before_35 hl (k := 2) rfl rfl (by decide) rfl (fun ls hl => ?_)
        refine lv_goto (tgt := 10) hx hb d_M_before_38 (by decide) ?_
        exact ih (x2 ||| (1 <<< (x3 &&& 31))) (x3 + 1) _ hf _ _ _ hP hD hS (lv_sub hl [2, 1, 0] rfl) hk
set_option maxHeartbeats 4000000 in
set_option maxRecDepth 100000 in
theorem c_M_before (l : Launch) (dC : Nat → ClassId) (dI : Nat → Nat → Nat) (cI cZ : ClassId) (ad : Nat → Nat) (sz : Nat) (t : Int32) (n : Int32) (B : fg_A) (E : fg_A) (C : fg_A) (O : fg_A) (F : fg_A) (L : fg_A) (V : fg_A) (p0 : Int32) (o : Int32 × fg_A) (hf : f_M_before n B E O F p0 = some o) : Met l y_M_before w_M_before rm_M_before (mW_Pc dC dI cI cZ ad sz t n B E C O F L V [.ref (ad 0), .int p0]) (mW_Qi dC dI cI cZ ad (va_A (mW cI cZ ad t n B E C O F L V) sz) t n B E C O o.2 L V o.1) 0 0 (va_A (mW cI cZ ad t n B E C O F L V) sz) := by
  refine Met.ofW (cc := b_M_before) (maxL := 4) (ret := (some .int)) (by decide) rfl ?_
  intro p e s m args below meth c s₁ Bd hml hv
  obtain ⟨rfl, hsz, hP, hK, hD0⟩ := hv
  have hx := Bd.exec
  have hb := Bd.bytes
  have hr := Bd.returns
  have hts := fun w h => atoms_spec (ws := w_M_before) Bd.pre w (List.mem_cons_of_mem _ h)
  have hown : s.vm.findClass R_M = some m.cls := findClass_of_methodNamed Bd.named
  have hlocks := Bd.notSynchronized
  subst hsz
  have hD := hD0.self (sz := s.heap.size)
  generalize hAe : va_A (mW cI cZ ad t n B E C O F L V) s.heap.size = A at hD ⊢
  have hA : ∀ q : Nat, s.heap.size ≤ q → A q := fun q h => by rw [← hAe]; exact Or.inr h
  have hS : va_S A s.heap s.heap [] := va_S.rf
  have hl := lv_entry ([.ref (ad 0), .int p0]) (n := 4) (Nat.le_of_ble_eq_true rfl)
  rw [lg_entry_eq]
  generalize (lg_sl ([.ref (ad 0), .int p0]) ++ List.replicate (4 - (lg_sl ([.ref (ad 0), .int p0])).length) Slot.unset).toArray = ls at hl ⊢
  have hl : lv_has ls 4 [(0, .ref (ad 0)), (1, .int p0)] := hl
  have hE : ∀ (pc : Nat) (H : Heap) (locs : List Loc) (ls : Array Slot), va_P (dC, dI) classes (mW cI cZ ad t n B E C O o.2 L V) H → va_D A (mW cI cZ ad t n B E C O o.2 L V) → va_S A s.heap H locs → decode b_M_before pc = .ok (.ireturn, 1) → W p l e (headSpec w_M_before rm_M_before).room s m ([.ref (ad 0), .int p0] : List Value).toArray below meth c H locs 0 0 (MQ below (mW_Qi dC dI cI cZ ad A t n B E C O o.2 L V o.1) ([.ref (ad 0), .int p0] : List Value).toArray s 0 0 A) (F0 m pc ls [.int o.1]) := fun pc H locs ls hP hD hS hd => W.iret (v := o.1) hx hb hr (fun t ht hW => ⟨⟨o.1, (), rfl, rfl, by rw [ht]; exact hP, va_K.moved hW.alike hK, hD⟩, hS.F ht⟩) hS.2.2 hd
  unfold f_M_before at hf
  refine lv_aload_n hx hb d_M_before_0 rfl (lv_at hl 0 rfl) ?_
  refine lv_iload_n hx hb d_M_before_1 rfl (lv_at hl 1 rfl) ?_
  refine lv_iconst (v := (-1)) hx hb d_M_before_2 (by decide) ?_
  obtain ⟨o1, hco1, hf⟩ := fg_ob_some hf
  refine fgM_v (va_runV (As := [.int p0, .int (-1)]) (rest := []) ⟨hx, hb, hml, hown, hts⟩ (c_M_measure l dC dI cI cZ ad _ t n B E C O F L V p0 (-1) o1 hco1) (cwV 2 hts gv_M_51 rfl rfl rfl (by decide +kernel) ⟨Nat.le_of_ble_eq_true rfl, Nat.le_of_ble_eq_true rfl⟩) (mW_pre hK hP hD) rfl rfl hl.1 rfl (lv_room (Nat.le_of_ble_eq_true rfl)) d_M_before_3 ⟨Nat.le_of_ble_eq_true rfl, Nat.le_of_ble_eq_true rfl⟩) hP hD hS hA (fun H locs hP hD hS => ?_)
  refine lv_iconst (v := 0) hx hb d_M_before_6 (by decide) ?_
  refine lv_istore_n (lv' := [(2, .int 0), (0, .ref (ad 0)), (1, .int p0)]) hx hb d_M_before_7 rfl hl (by decide) rfl (fun ls hl => ?_)
  refine lv_iconst (v := 0) hx hb d_M_before_8 (by decide) ?_
  refine lv_istore_n (lv' := [(3, .int 0), (2, .int 0), (0, .ref (ad 0)), (1, .int p0)]) hx hb d_M_before_9 rfl hl (by decide) rfl (fun ls hl => ?_)
  obtain ⟨o2, hco2, hf⟩ := fg_ob_some hf
  refine w_M_before_10 hx hb hml hown hts hK hA t n B E C O o1 L V fu 0 0 o2 hco2 _ _ _ hP hD hS (lv_sub hl [2, 1, 0] rfl) (fun H locs ls hP hD hS hl => ?_)
  refine lv_iload_n hx hb d_M_before_41 rfl (lv_at hl 0 rfl) ?_
  cases hf
  exact hE _ _ _ _ hP hD hS d_M_before_42
set_option maxHeartbeats 4000000 in
set_option maxRecDepth 100000 in
theorem w_M_flow_2 {p : Program} {l : Launch} {e : Env} {s : State} {m : MethodId} {args : Array Value} {below : List Frame} {meth : Method} {c : Code} {Q : State → Prop} {A : Nat → Prop} {dC : Nat → ClassId} {dI : Nat → Nat → Nat} {cI cZ : ClassId} {ad : Nat → Nat} (hx : p.tables.exec = Jvm.exec) (hb : c.code = b_M_flow) (hml : c.maxLocals = 4) (hown : s.vm.findClass R_M = some m.cls) (hts : ∀ w ∈ gw, w.before args s = true) (hK : va_K (dC, dI) classes (gT cI cZ) s) (hA : ∀ q : Nat, s.heap.size ≤ q → A q) (x1 : Int32) (x2 : Int32) (t : Int32) (n : Int32) (B : fg_A) (E : fg_A) (C : fg_A) (O : fg_A) (F : fg_A) (V : fg_A) :
    ∀ (k : Nat) (x3 : Int32) (L : fg_A) (o : fg_A), f_M_flow_2 n x1 x2 k x3 L = some o → ∀ (H : Heap) (locs : List Loc) (ls : Array Slot), va_P (dC, dI) classes (mW cI cZ ad t n B E C O F L V) H → va_D A (mW cI cZ ad t n B E C O F L V) → va_S A s.heap H locs → lv_has ls 4 [(0, .ref (ad 0)), (1, .int x1), (2, .int x2), (3, .int x3)] →
    (∀ (H : Heap) (locs : List Loc) (ls : Array Slot), va_P (dC, dI) classes (mW cI cZ ad t n B E C O F o V) H → va_D A (mW cI cZ ad t n B E C O F o V) → va_S A s.heap H locs → lv_has ls 4 [(0, .ref (ad 0)), (1, .int x1), (2, .int x2)] → W p l e (headSpec w_M_flow rm_M_flow).room s m args below meth c H locs 0 0 Q (F0 m 23 ls [])) → W p l e (headSpec w_M_flow rm_M_flow).room s m args below meth c H locs 0 0 Q (F0 m 2 ls []) := by
  intro k
  induction k with
  | zero =>
    intro x3 L o hf
    exact absurd (show none = some o from hf) (by simp)
  | succ k ih =>
    intro x3 L o hf H locs ls hP hD hS hl hk
    rw [f_M_flow_2] at hf
    refine lv_iload_n hx hb d_M_flow_2 rfl (lv_at hl 3 rfl) ?_
    refine lv_aload_n hx hb d_M_flow_3 rfl (lv_at hl 0 rfl) ?_
    refine va_get (D := (dC, dI)) (ci := 1) (v := .int n) (C := R_M) (T := F_M) (N := 9) hx hb hts i_M hown hK hP 0 rfl rfl 1 (by decide) (hts _ fl_M_40) (fun _ h9 => h9) rfl d_M_flow_4 ?_
    refine lv_icmp_ge (tgt := 23) hx hb d_M_flow_7 (by decide) (fun hc => ?_) (fun hc => ?_)
    · rw [if_pos hc] at hf
      cases hf
      exact hk _ _ _ hP hD hS (lv_sub hl [0, 1, 2] rfl)
    · rw [if_neg hc] at hf
      refine lv_aload_n hx hb d_M_flow_10 rfl (lv_at hl 0 rfl) ?_
      refine va_get (D := (dC, dI)) (ci := 1) (v := .ref (ad 6)) (C := R_M) (T := F_M) (N := 9) hx hb hts i_M hown hK hP 0 rfl rfl 7 (by decide) (hts _ fl_M_26) (fun _ h9 => h9) rfl d_M_flow_11 ?_
      refine lv_iload_n hx hb d_M_flow_14 rfl (lv_at hl 3 rfl) ?_
      refine lv_iconst (v := 0) hx hb d_M_flow_15 (by decide) ?_
      obtain ⟨hi, hf⟩ := fg_og_some hf
      refine va_iast hx hb hK hP hD hS 6 0 rfl rfl (ix_in hi) d_M_flow_16 (fun H locs hP hD hS => ?_)
      have hP : va_P (dC, dI) classes (mW cI cZ ad t n B E C O F (upd L x3.toNatClampNeg 0) V) H := hP
      have hD : va_D A (mW cI cZ ad t n B E C O F (upd L x3.toNatClampNeg 0) V) := hD
      refine lv_iinc (v := x3 + 1) (lv' := [(3, .int (x3 + 1)), (0, .ref (ad 0)), (1, .int x1), (2, .int x2)]) hx hb d_M_flow_17 hl (k := 3) rfl rfl (by decide) rfl (fun ls hl => ?_)
      refine lv_goto (tgt := 2) hx hb d_M_flow_20 (by decide) ?_
      exact ih (x3 + 1) (upd L x3.toNatClampNeg 0) _ hf _ _ _ hP hD hS (lv_sub hl [1, 2, 3, 0] rfl) hk
set_option maxHeartbeats 4000000 in
set_option maxRecDepth 100000 in
theorem w_M_flow_30 {p : Program} {l : Launch} {e : Env} {s : State} {m : MethodId} {args : Array Value} {below : List Frame} {meth : Method} {c : Code} {Q : State → Prop} {A : Nat → Prop} {dC : Nat → ClassId} {dI : Nat → Nat → Nat} {cI cZ : ClassId} {ad : Nat → Nat} (hx : p.tables.exec = Jvm.exec) (hb : c.code = b_M_flow) (hml : c.maxLocals = 4) (hown : s.vm.findClass R_M = some m.cls) (hts : ∀ w ∈ gw, w.before args s = true) (hK : va_K (dC, dI) classes (gT cI cZ) s) (hA : ∀ q : Nat, s.heap.size ≤ q → A q) (x1 : Int32) (x2 : Int32) (t : Int32) (n : Int32) (B : fg_A) (E : fg_A) (C : fg_A) (O : fg_A) (F : fg_A) :
    ∀ (k : Nat) (x3 : Int32) (L : fg_A) (V : fg_A) (o : Int32 × fg_A × fg_A), f_M_flow_30 n B E C O x1 x2 k x3 L V = some o → ∀ (H : Heap) (locs : List Loc) (ls : Array Slot), va_P (dC, dI) classes (mW cI cZ ad t n B E C O F L V) H → va_D A (mW cI cZ ad t n B E C O F L V) → va_S A s.heap H locs → lv_has ls 4 [(0, .ref (ad 0)), (1, .int x1), (2, .int x2), (3, .int x3)] →
    (∀ (H : Heap) (locs : List Loc) (ls : Array Slot), va_P (dC, dI) classes (mW cI cZ ad t n B E C O F o.2.1 o.2.2) H → va_D A (mW cI cZ ad t n B E C O F o.2.1 o.2.2) → va_S A s.heap H locs → lv_has ls 4 [(3, .int o.1)] → W p l e (headSpec w_M_flow rm_M_flow).room s m args below meth c H locs 0 0 Q (F0 m 56 ls [])) → W p l e (headSpec w_M_flow rm_M_flow).room s m args below meth c H locs 0 0 Q (F0 m 30 ls []) := by
  intro k
  induction k with
  | zero =>
    intro x3 L V o hf
    exact absurd (show none = some o from hf) (by simp)
  | succ k ih =>
    intro x3 L V o hf H locs ls hP hD hS hl hk
    rw [f_M_flow_30] at hf
    refine lv_aload_n hx hb d_M_flow_30 rfl (lv_at hl 0 rfl) ?_
    refine va_get (D := (dC, dI)) (ci := 1) (v := .ref (ad 7)) (C := R_M) (T := F_M) (N := 9) hx hb hts i_M hown hK hP 0 rfl rfl 8 (by decide) (hts _ fl_M_29) (fun _ h9 => h9) rfl d_M_flow_31 ?_
    refine lv_iload_n hx hb d_M_flow_34 rfl (lv_at hl 2 rfl) ?_
    obtain ⟨hi, hf⟩ := fg_og_some hf
    refine va_iald hx hb hK hP 7 0 rfl rfl (ix_in hi) d_M_flow_35 ?_
    refine lv_if_le (tgt := 56) hx hb d_M_flow_36 (by decide) (fun hc => ?_) (fun hc => ?_)
    · rw [if_pos hc] at hf
      cases hf
      exact hk _ _ _ hP hD hS (lv_sub hl [3] rfl)
    · rw [if_neg hc] at hf
      refine lv_aload_n hx hb d_M_flow_39 rfl (lv_at hl 0 rfl) ?_
      refine lv_iload_n hx hb d_M_flow_40 rfl (lv_at hl 1 rfl) ?_
      refine lv_iload_n hx hb d_M_flow_41 rfl (lv_at hl 2 rfl) ?_
      obtain ⟨o1, hco1, hf⟩ := fg_ob_some hf
      refine fgM_v (va_runV (As := [.int x1, .int x2]) (rest := []) ⟨hx, hb, hml, hown, hts⟩ (c_M_push l dC dI cI cZ ad _ t n B E C O F L V x1 x2 o1 hco1) (cwV 2 hts gv_M_66 rfl rfl rfl (by decide +kernel) ⟨Nat.le_of_ble_eq_true rfl, Nat.le_of_ble_eq_true rfl⟩) (mW_pre hK hP hD) rfl rfl hl.1 rfl (lv_room (Nat.le_of_ble_eq_true rfl)) d_M_flow_42 ⟨Nat.le_of_ble_eq_true rfl, Nat.le_of_ble_eq_true rfl⟩) hP hD hS hA (fun H locs hP hD hS => ?_)
      refine lv_iinc (v := x3 + 1) (lv' := [(3, .int (x3 + 1)), (0, .ref (ad 0)), (1, .int x1), (2, .int x2)]) hx hb d_M_flow_45 hl (k := 3) rfl rfl (by decide) rfl (fun ls hl => ?_)
      refine lv_aload_n hx hb d_M_flow_48 rfl (lv_at hl 1 rfl) ?_
      refine lv_iload_n hx hb d_M_flow_49 rfl (lv_at hl 2 rfl) ?_
      obtain ⟨o2, hco2, hf⟩ := fg_ob_some hf
      refine fgM_v (va_runV (As := [.int x1]) (rest := []) ⟨hx, hb, hml, hown, hts⟩ (c_M_spread l dC dI cI cZ ad _ t n B E C O F o1 V x1 o2 hco2) (cwV 1 hts gv_M_62 rfl rfl rfl (by decide +kernel) ⟨Nat.le_of_ble_eq_true rfl, Nat.le_of_ble_eq_true rfl⟩) (mW_pre hK hP hD) rfl rfl hl.1 rfl (lv_room (Nat.le_of_ble_eq_true rfl)) d_M_flow_50 ⟨Nat.le_of_ble_eq_true rfl, Nat.le_of_ble_eq_true rfl⟩) hP hD hS hA (fun H locs hP hD hS => ?_)
      refine lv_goto (tgt := 30) hx hb d_M_flow_53 (by decide) ?_
      exact ih (x3 + 1) o1 o2 _ hf _ _ _ hP hD hS (lv_sub hl [1, 2, 3, 0] rfl) hk
set_option maxHeartbeats 4000000 in
set_option maxRecDepth 100000 in
theorem c_M_flow (l : Launch) (dC : Nat → ClassId) (dI : Nat → Nat → Nat) (cI cZ : ClassId) (ad : Nat → Nat) (sz : Nat) (t : Int32) (n : Int32) (B : fg_A) (E : fg_A) (C : fg_A) (O : fg_A) (F : fg_A) (L : fg_A) (V : fg_A) (p0 : Int32) (p1 : Int32) (o : Int32 × fg_A × fg_A) (hf : f_M_flow n B E C O L V p0 p1 = some o) : Met l y_M_flow w_M_flow rm_M_flow (mW_Pc dC dI cI cZ ad sz t n B E C O F L V [.ref (ad 0), .int p0, .int p1]) (mW_Qi dC dI cI cZ ad (va_A (mW cI cZ ad t n B E C O F L V) sz) t n B E C O F o.2.1 o.2.2 o.1) 0 0 (va_A (mW cI cZ ad t n B E C O F L V) sz) := by
  refine Met.ofW (cc := b_M_flow) (maxL := 4) (ret := (some .int)) (by decide) rfl ?_
  intro p e s m args below meth c s₁ Bd hml hv
  obtain ⟨rfl, hsz, hP, hK, hD0⟩ := hv
  have hx := Bd.exec
  have hb := Bd.bytes
  have hr := Bd.returns
  have hts := fun w h => atoms_spec (ws := w_M_flow) Bd.pre w (List.mem_cons_of_mem _ h)
  have hown : s.vm.findClass R_M = some m.cls := findClass_of_methodNamed Bd.named
  have hlocks := Bd.notSynchronized
  subst hsz
  have hD := hD0.self (sz := s.heap.size)
  generalize hAe : va_A (mW cI cZ ad t n B E C O F L V) s.heap.size = A at hD ⊢
  have hA : ∀ q : Nat, s.heap.size ≤ q → A q := fun q h => by rw [← hAe]; exact Or.inr h
  have hS : va_S A s.heap s.heap [] := va_S.rf
  have hl := lv_entry ([.ref (ad 0), .int p0, .int p1]) (n := 4) (Nat.le_of_ble_eq_true rfl)
  rw [lg_entry_eq]
  generalize (lg_sl ([.ref (ad 0), .int p0, .int p1]) ++ List.replicate (4 - (lg_sl ([.ref (ad 0), .int p0, .int p1])).length) Slot.unset).toArray = ls at hl ⊢
  have hl : lv_has ls 4 [(0, .ref (ad 0)), (1, .int p0), (2, .int p1)] := hl
  have hE : ∀ (pc : Nat) (H : Heap) (locs : List Loc) (ls : Array Slot), va_P (dC, dI) classes (mW cI cZ ad t n B E C O F o.2.1 o.2.2) H → va_D A (mW cI cZ ad t n B E C O F o.2.1 o.2.2) → va_S A s.heap H locs → decode b_M_flow pc = .ok (.ireturn, 1) → W p l e (headSpec w_M_flow rm_M_flow).room s m ([.ref (ad 0), .int p0, .int p1] : List Value).toArray below meth c H locs 0 0 (MQ below (mW_Qi dC dI cI cZ ad A t n B E C O F o.2.1 o.2.2 o.1) ([.ref (ad 0), .int p0, .int p1] : List Value).toArray s 0 0 A) (F0 m pc ls [.int o.1]) := fun pc H locs ls hP hD hS hd => W.iret (v := o.1) hx hb hr (fun t ht hW => ⟨⟨o.1, (), rfl, rfl, by rw [ht]; exact hP, va_K.moved hW.alike hK, hD⟩, hS.F ht⟩) hS.2.2 hd
  unfold f_M_flow at hf
  refine lv_iconst (v := 0) hx hb d_M_flow_0 (by decide) ?_
  refine lv_istore_n (lv' := [(3, .int 0), (0, .ref (ad 0)), (1, .int p0), (2, .int p1)]) hx hb d_M_flow_1 rfl hl (by decide) rfl (fun ls hl => ?_)
  obtain ⟨o1, hco1, hf⟩ := fg_ob_some hf
  refine w_M_flow_2 hx hb hml hown hts hK hA p0 p1 t n B E C O F V fu 0 L o1 hco1 _ _ _ hP hD hS (lv_sub hl [1, 2, 3, 0] rfl) (fun H locs ls hP hD hS hl => ?_)
  refine lv_iconst (v := 0) hx hb d_M_flow_23 (by decide) ?_
  refine lv_istore_n (lv' := [(3, .int 0), (0, .ref (ad 0)), (1, .int p0), (2, .int p1)]) hx hb d_M_flow_24 rfl hl (by decide) rfl (fun ls hl => ?_)
  refine lv_aload_n hx hb d_M_flow_25 rfl (lv_at hl 1 rfl) ?_
  refine lv_iload_n hx hb d_M_flow_26 rfl (lv_at hl 2 rfl) ?_
  obtain ⟨o2, hco2, hf⟩ := fg_ob_some hf
  refine fgM_v (va_runV (As := [.int p0]) (rest := []) ⟨hx, hb, hml, hown, hts⟩ (c_M_spread l dC dI cI cZ ad _ t n B E C O F o1 V p0 o2 hco2) (cwV 1 hts gv_M_62 rfl rfl rfl (by decide +kernel) ⟨Nat.le_of_ble_eq_true rfl, Nat.le_of_ble_eq_true rfl⟩) (mW_pre hK hP hD) rfl rfl hl.1 rfl (lv_room (Nat.le_of_ble_eq_true rfl)) d_M_flow_27 ⟨Nat.le_of_ble_eq_true rfl, Nat.le_of_ble_eq_true rfl⟩) hP hD hS hA (fun H locs hP hD hS => ?_)
  obtain ⟨o3, hco3, hf⟩ := fg_ob_some hf
  refine w_M_flow_30 hx hb hml hown hts hK hA p0 p1 t n B E C O F fu 0 o1 o2 o3 hco3 _ _ _ hP hD hS (lv_sub hl [1, 2, 3, 0] rfl) (fun H locs ls hP hD hS hl => ?_)
  refine lv_iload_n hx hb d_M_flow_56 rfl (lv_at hl 0 rfl) ?_
  cases hf
  exact hE _ _ _ _ hP hD hS d_M_flow_57
