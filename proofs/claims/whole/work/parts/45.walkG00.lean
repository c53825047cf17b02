set_option maxHeartbeats 4000000 in
set_option maxRecDepth 100000 in
theorem c_G_clear (l : Launch) (dC : Nat → ClassId) (dI : Nat → Nat → Nat) (cI cZ : ClassId) (ad : Nat → Nat) (sz : Nat) (B : fg_A) (E : fg_A) (C : fg_A) (O : fg_A) (n : Int32) (F : fg_A) (L : fg_A) (V : fg_A) (o : Int32) (hf : f_G_clear n = some o) : Met l y_G_clear w_G_clear rm_G_clear (gW_Pc dC dI cI cZ ad sz B E C O n F L V [.ref (ad 0)]) (gW_Qv dC dI cI cZ ad (va_A (gW cI cZ ad B E C O n F L V) sz) B E C O o F L V) 0 0 (va_A (gW cI cZ ad B E C O n F L V) sz) := by
  refine Met.ofW (cc := b_G_clear) (maxL := 1) (ret := none) (by decide) rfl ?_
  intro p e s m args below meth c s₁ Bd hml hv
  obtain ⟨rfl, hsz, hP, hK, hD0⟩ := hv
  have hx := Bd.exec
  have hb := Bd.bytes
  have hr := Bd.returns
  have hts := fun w h => atoms_spec (ws := w_G_clear) Bd.pre w (List.mem_cons_of_mem _ h)
  have hown : s.vm.findClass R_G = some m.cls := findClass_of_methodNamed Bd.named
  have hlocks := Bd.notSynchronized
  subst hsz
  have hD := hD0.self (sz := s.heap.size)
  generalize hAe : va_A (gW cI cZ ad B E C O n F L V) s.heap.size = A at hD ⊢
  have hA : ∀ q : Nat, s.heap.size ≤ q → A q := fun q h => by rw [← hAe]; exact Or.inr h
  have hS : va_S A s.heap s.heap [] := va_S.rf
  have hl := lv_entry ([.ref (ad 0)]) (n := 1) (Nat.le_of_ble_eq_true rfl)
  rw [lg_entry_eq]
  generalize (lg_sl ([.ref (ad 0)]) ++ List.replicate (1 - (lg_sl ([.ref (ad 0)])).length) Slot.unset).toArray = ls at hl ⊢
  have hl : lv_has ls 1 [(0, .ref (ad 0))] := hl
  have hE : ∀ (pc : Nat) (H : Heap) (locs : List Loc) (ls : Array Slot), va_P (dC, dI) classes (gW cI cZ ad B E C O o F L V) H → va_D A (gW cI cZ ad B E C O o F L V) → va_S A s.heap H locs → decode b_G_clear pc = .ok (.return_, 1) → W p l e (headSpec w_G_clear rm_G_clear).room s m ([.ref (ad 0)] : List Value).toArray below meth c H locs 0 0 (MQ below (gW_Qv dC dI cI cZ ad A B E C O o F L V) ([.ref (ad 0)] : List Value).toArray s 0 0 A) (F0 m pc ls []) := fun pc H locs ls hP hD hS hd => W.vret hx hb hr (fun t ht hW => ⟨⟨(), rfl, trivial, by rw [ht]; exact hP, va_K.moved hW.alike hK, hD⟩, hS.F ht⟩) hS.2.2 hd
  unfold f_G_clear at hf
  refine lv_aload_n hx hb d_G_clear_0 rfl (lv_at hl 0 rfl) ?_
  refine lv_iconst (v := 0) hx hb d_G_clear_1 (by decide) ?_
  refine va_put (D := (dC, dI)) (ci := 0) (v := .int 0) (ty := .int) (C := R_G) (T := F_G) (N := 8) hx hb hts i_G t_G t_G_ok n_G hown hK hP hD hS 0 rfl rfl 4 (by decide) (hts _ fl_G_23) (fun _ h9 => h9) rfl (by decide +kernel) rfl rfl (Nat.le_of_ble_eq_true rfl) d_G_clear_2 (fun H locs hP hD hS => ?_)
  have hP : va_P (dC, dI) classes (gW cI cZ ad B E C O 0 F L V) H := hP
  have hD : va_D A (gW cI cZ ad B E C O 0 F L V) := hD
  cases hf
  exact hE _ _ _ _ hP hD hS d_G_clear_5
set_option maxHeartbeats 4000000 in
set_option maxRecDepth 100000 in
theorem c_G_turn (l : Launch) (dC : Nat → ClassId) (dI : Nat → Nat → Nat) (cI cZ : ClassId) (ad : Nat → Nat) (sz : Nat) (B : fg_A) (E : fg_A) (C : fg_A) (O : fg_A) (n : Int32) (F : fg_A) (L : fg_A) (V : fg_A) (p0 : Int32) (p1 : Int32) (o : Int32 × fg_A) (hf : f_G_turn O n p0 p1 = some o) : Met l y_G_turn w_G_turn rm_G_turn (gW_Pc dC dI cI cZ ad sz B E C O n F L V [.ref (ad 0), .int p0, .int p1]) (gW_Qi dC dI cI cZ ad (va_A (gW cI cZ ad B E C O n F L V) sz) B E C o.2 n F L V o.1) 0 0 (va_A (gW cI cZ ad B E C O n F L V) sz) := by
  refine Met.ofW (cc := b_G_turn) (maxL := 4) (ret := (some .boolean)) (by decide) rfl ?_
  intro p e s m args below meth c s₁ Bd hml hv
  obtain ⟨rfl, hsz, hP, hK, hD0⟩ := hv
  have hx := Bd.exec
  have hb := Bd.bytes
  have hr := Bd.returns
  have hts := fun w h => atoms_spec (ws := w_G_turn) Bd.pre w (List.mem_cons_of_mem _ h)
  have hown : s.vm.findClass R_G = some m.cls := findClass_of_methodNamed Bd.named
  have hlocks := Bd.notSynchronized
  subst hsz
  have hD := hD0.self (sz := s.heap.size)
  generalize hAe : va_A (gW cI cZ ad B E C O n F L V) s.heap.size = A at hD ⊢
  have hA : ∀ q : Nat, s.heap.size ≤ q → A q := fun q h => by rw [← hAe]; exact Or.inr h
  have hS : va_S A s.heap s.heap [] := va_S.rf
  have hl := lv_entry ([.ref (ad 0), .int p0, .int p1]) (n := 4) (Nat.le_of_ble_eq_true rfl)
  rw [lg_entry_eq]
  generalize (lg_sl ([.ref (ad 0), .int p0, .int p1]) ++ List.replicate (4 - (lg_sl ([.ref (ad 0), .int p0, .int p1])).length) Slot.unset).toArray = ls at hl ⊢
  have hl : lv_has ls 4 [(0, .ref (ad 0)), (1, .int p0), (2, .int p1)] := hl
  have hE : ∀ (pc : Nat) (H : Heap) (locs : List Loc) (ls : Array Slot), va_P (dC, dI) classes (gW cI cZ ad B E C o.2 n F L V) H → va_D A (gW cI cZ ad B E C o.2 n F L V) → va_S A s.heap H locs → narrow .boolean (.int o.1) = .int o.1 → decode b_G_turn pc = .ok (.ireturn, 1) → W p l e (headSpec w_G_turn rm_G_turn).room s m ([.ref (ad 0), .int p0, .int p1] : List Value).toArray below meth c H locs 0 0 (MQ below (gW_Qi dC dI cI cZ ad A B E C o.2 n F L V o.1) ([.ref (ad 0), .int p0, .int p1] : List Value).toArray s 0 0 A) (F0 m pc ls [.int o.1]) := fun pc H locs ls hP hD hS hn hd => W.zret (v := o.1) hx hb hr hn (fun t ht hW => ⟨⟨o.1, (), rfl, rfl, by rw [ht]; exact hP, va_K.moved hW.alike hK, hD⟩, hS.F ht⟩) hS.2.2 hd
  unfold f_G_turn at hf
  refine lv_iload_n hx hb d_G_turn_0 rfl (lv_at hl 1 rfl) ?_
  refine lv_if_lt (tgt := 12) hx hb d_G_turn_1 (by decide) (fun hc => ?_) (fun hc => ?_)
  · rw [if_pos hc] at hf
    cases hf
  · rw [if_neg hc] at hf
    refine lv_iload_n hx hb d_G_turn_4 rfl (lv_at hl 1 rfl) ?_
    refine lv_aload_n hx hb d_G_turn_5 rfl (lv_at hl 0 rfl) ?_
    refine va_get (D := (dC, dI)) (ci := 0) (v := .int n) (C := R_G) (T := F_G) (N := 8) hx hb hts i_G hown hK hP 0 rfl rfl 4 (by decide) (hts _ fl_G_23) (fun _ h9 => h9) rfl d_G_turn_6 ?_
    refine lv_icmp_lt (tgt := 22) hx hb d_G_turn_9 (by decide) (fun hc => ?_) (fun hc => ?_)
    · rw [if_pos hc] at hf
      refine lv_aload_n hx hb d_G_turn_22 rfl (lv_at hl 0 rfl) ?_
      refine va_get (D := (dC, dI)) (ci := 0) (v := .ref (ad 4)) (C := R_G) (T := F_G) (N := 8) hx hb hts i_G hown hK hP 0 rfl rfl 3 (by decide) (hts _ fl_G_19) (fun _ h9 => h9) rfl d_G_turn_23 ?_
      refine lv_iload_n hx hb d_G_turn_26 rfl (lv_at hl 1 rfl) ?_
      obtain ⟨hi, hf⟩ := fg_og_some hf
      refine va_zald hx hb hK hP 4 1 rfl rfl (ix_in hi) d_G_turn_27 ?_
      refine lv_iload_n hx hb d_G_turn_28 rfl (lv_at hl 2 rfl) ?_
      refine lv_icmp_ne (tgt := 36) hx hb d_G_turn_29 (by decide) (fun hc => ?_) (fun hc => ?_)
      · rw [if_neg hc] at hf
        refine lv_iconst (v := 0) hx hb d_G_turn_36 (by decide) ?_
        refine lv_istore_n (lv' := [(3, .int 0), (0, .ref (ad 0)), (1, .int p0), (2, .int p1)]) hx hb d_G_turn_37 rfl hl (by decide) rfl (fun ls hl => ?_)
        refine lv_aload_n hx hb d_G_turn_38 rfl (lv_at hl 1 rfl) ?_
        refine va_get (D := (dC, dI)) (ci := 0) (v := .ref (ad 4)) (C := R_G) (T := F_G) (N := 8) hx hb hts i_G hown hK hP 0 rfl rfl 3 (by decide) (hts _ fl_G_19) (fun _ h9 => h9) rfl d_G_turn_39 ?_
        refine lv_iload_n hx hb d_G_turn_42 rfl (lv_at hl 2 rfl) ?_
        refine lv_iload_n hx hb d_G_turn_43 rfl (lv_at hl 3 rfl) ?_
        obtain ⟨hi, hf⟩ := fg_og_some hf
        refine va_zast hx hb hK hP hD hS 4 1 rfl rfl (ix_in hi) d_G_turn_44 (fun H locs hP hD hS => ?_)
        have hP : va_P (dC, dI) classes (gW cI cZ ad B E C (upd O p0.toNatClampNeg (vp_nar .boolean p1)) n F L V) H := hP
        have hD : va_D A (gW cI cZ ad B E C (upd O p0.toNatClampNeg (vp_nar .boolean p1)) n F L V) := hD
        refine lv_iload_n hx hb d_G_turn_45 rfl (lv_at hl 0 rfl) ?_
        cases hf
        exact hE _ _ _ _ hP hD hS (by first | decide | (dsimp only; decide)) d_G_turn_46
      · rw [if_pos hc] at hf
        refine lv_iconst (v := 1) hx hb d_G_turn_32 (by decide) ?_
        refine lv_goto (tgt := 37) hx hb d_G_turn_33 (by decide) ?_
        refine lv_istore_n (lv' := [(3, .int 1), (0, .ref (ad 0)), (1, .int p0), (2, .int p1)]) hx hb d_G_turn_37 rfl hl (by decide) rfl (fun ls hl => ?_)
        refine lv_aload_n hx hb d_G_turn_38 rfl (lv_at hl 1 rfl) ?_
        refine va_get (D := (dC, dI)) (ci := 0) (v := .ref (ad 4)) (C := R_G) (T := F_G) (N := 8) hx hb hts i_G hown hK hP 0 rfl rfl 3 (by decide) (hts _ fl_G_19) (fun _ h9 => h9) rfl d_G_turn_39 ?_
        refine lv_iload_n hx hb d_G_turn_42 rfl (lv_at hl 2 rfl) ?_
        refine lv_iload_n hx hb d_G_turn_43 rfl (lv_at hl 3 rfl) ?_
        obtain ⟨hi, hf⟩ := fg_og_some hf
        refine va_zast hx hb hK hP hD hS 4 1 rfl rfl (ix_in hi) d_G_turn_44 (fun H locs hP hD hS => ?_)
        have hP : va_P (dC, dI) classes (gW cI cZ ad B E C (upd O p0.toNatClampNeg (vp_nar .boolean p1)) n F L V) H := hP
        have hD : va_D A (gW cI cZ ad B E C (upd O p0.toNatClampNeg (vp_nar .boolean p1)) n F L V) := hD
        refine lv_iload_n hx hb d_G_turn_45 rfl (lv_at hl 0 rfl) ?_
        cases hf
        exact hE _ _ _ _ hP hD hS (by first | decide | (dsimp only; decide)) d_G_turn_46
    · rw [if_neg hc] at hf
      cases hf
set_option maxHeartbeats 4000000 in
set_option maxRecDepth 100000 in
theorem c_G_needNode (l : Launch) (p0 : Int32) {o : Unit} (hf : f_G_needNode p0 = some o) : Met l y_G_needNode w_G_needNode rm_G_needNode (fun v _ => v = ([.int p0] : List Value).toArray) (fg_Qv0) 0 0 (fun _ => False) := by
  refine Met.ofW (cc := b_G_needNode) (maxL := 1) (ret := none) (by decide) rfl ?_
  intro p e s m args below meth c s₁ Bd hml hv
  obtain rfl := hv
  have hx := Bd.exec
  have hb := Bd.bytes
  have hr := Bd.returns
  have hts := fun w h => atoms_spec (ws := w_G_needNode) Bd.pre w (List.mem_cons_of_mem _ h)
  have hown : s.vm.findClass R_G = some m.cls := findClass_of_methodNamed Bd.named
  have hlocks := Bd.notSynchronized
  have hl := lv_entry ([.int p0]) (n := 1) (Nat.le_of_ble_eq_true rfl)
  rw [lg_entry_eq]
  generalize (lg_sl ([.int p0]) ++ List.replicate (1 - (lg_sl ([.int p0])).length) Slot.unset).toArray = ls at hl ⊢
  have hl : lv_has ls 1 [(0, .int p0)] := hl
  unfold f_G_needNode at hf
  refine lv_iload_n hx hb d_G_needNode_0 rfl (lv_at hl 0 rfl) ?_
  refine lv_if_lt (tgt := 10) hx hb d_G_needNode_1 (by decide) (fun hc => ?_) (fun hc => ?_)
  · rw [if_pos hc] at hf
    cases hf
  · rw [if_neg hc] at hf
    refine lv_iload_n hx hb d_G_needNode_4 rfl (lv_at hl 0 rfl) ?_
    refine lv_bipush (v := 28) hx hb d_G_needNode_5 (by decide) ?_
    refine lv_icmp_lt (tgt := 20) hx hb d_G_needNode_7 (by decide) (fun hc => ?_) (fun hc => ?_)
    · rw [if_pos hc] at hf
      exact W.vret hx hb hr (fun t ht hW => ⟨rfl, ht⟩) (fun q h => by cases h) d_G_needNode_20
    · rw [if_neg hc] at hf
      cases hf
set_option maxHeartbeats 4000000 in
set_option maxRecDepth 100000 in
theorem c_G_bit (l : Launch) (p0 : Int32) (o : Int32) (hf : f_G_bit p0 = some o) : Met l y_G_bit w_G_bit rm_G_bit (fun v _ => v = ([.int p0] : List Value).toArray) (QcRead o) 0 0 (fun _ => False) := by
  refine Met.ofW (cc := b_G_bit) (maxL := 1) (ret := (some .int)) (by decide) rfl ?_
  intro p e s m args below meth c s₁ Bd hml hv
  obtain rfl := hv
  have hx := Bd.exec
  have hb := Bd.bytes
  have hr := Bd.returns
  have hts := fun w h => atoms_spec (ws := w_G_bit) Bd.pre w (List.mem_cons_of_mem _ h)
  have hown : s.vm.findClass R_G = some m.cls := findClass_of_methodNamed Bd.named
  have hlocks := Bd.notSynchronized
  have hl := lv_entry ([.int p0]) (n := 1) (Nat.le_of_ble_eq_true rfl)
  rw [lg_entry_eq]
  generalize (lg_sl ([.int p0]) ++ List.replicate (1 - (lg_sl ([.int p0])).length) Slot.unset).toArray = ls at hl ⊢
  have hl : lv_has ls 1 [(0, .int p0)] := hl
  unfold f_G_bit at hf
  refine lv_iconst (v := 1) hx hb d_G_bit_0 (by decide) ?_
  refine lv_iload_n hx hb d_G_bit_1 rfl (lv_at hl 0 rfl) ?_
  refine lv_ishl hx hb d_G_bit_2 ?_
  cases hf
  exact W.iret hx hb hr (fun t ht hW => ⟨rfl, ht⟩) (fun q h => by cases h) d_G_bit_3
set_option maxHeartbeats 4000000 in
set_option maxRecDepth 100000 in
theorem w_G_measureWaysOf_4 {p : Program} {l : Launch} {e : Env} {s : State} {m : MethodId} {args : Array Value} {below : List Frame} {meth : Method} {c : Code} {Q : State → Prop} {A : Nat → Prop} {dC : Nat → ClassId} {dI : Nat → Nat → Nat} {cI cZ : ClassId} {ad : Nat → Nat} (hx : p.tables.exec = Jvm.exec) (hb : c.code = b_G_measureWaysOf) (hml : c.maxLocals = 5) (hown : s.vm.findClass R_G = some m.cls) (hts : ∀ w ∈ gw, w.before args s = true) (hK : va_K (dC, dI) classes (gT cI cZ) s) (hA : ∀ q : Nat, s.heap.size ≤ q → A q) (x1 : Int32) (B : fg_A) (E : fg_A) (C : fg_A) (O : fg_A) (n : Int32) (L : fg_A) (V : fg_A) :
    ∀ (k : Nat) (x2 : Int32) (x3 : Int32) (F : fg_A) (o : Int32 × fg_A), f_G_measureWaysOf_4 B E O n x1 k x2 x3 F = some o → ∀ (H : Heap) (locs : List Loc) (ls : Array Slot), va_P (dC, dI) classes (gW cI cZ ad B E C O n F L V) H → va_D A (gW cI cZ ad B E C O n F L V) → va_S A s.heap H locs → lv_has ls 5 [(0, .ref (ad 0)), (1, .int x1), (2, .int x2), (3, .int x3)] →
    (∀ (H : Heap) (locs : List Loc) (ls : Array Slot), va_P (dC, dI) classes (gW cI cZ ad B E C O n o.2 L V) H → va_D A (gW cI cZ ad B E C O n o.2 L V) → va_S A s.heap H locs → lv_has ls 5 [(2, .int o.1)] → W p l e (headSpec w_G_measureWaysOf rm_G_measureWaysOf).room s m args below meth c H locs 0 0 Q (F0 m 73 ls [])) → W p l e (headSpec w_G_measureWaysOf rm_G_measureWaysOf).room s m args below meth c H locs 0 0 Q (F0 m 4 ls []) := by
  intro k
  induction k with
  | zero =>
    intro x2 x3 F o hf
    exact absurd (show none = some o from hf) (by simp)
  | succ k ih =>
    intro x2 x3 F o hf H locs ls hP hD hS hl hk
    rw [f_G_measureWaysOf_4] at hf
    refine lv_iload_n hx hb d_G_measureWaysOf_4 rfl (lv_at hl 3 rfl) ?_
    refine lv_aload_n hx hb d_G_measureWaysOf_5 rfl (lv_at hl 0 rfl) ?_
    refine va_get (D := (dC, dI)) (ci := 0) (v := .int n) (C := R_G) (T := F_G) (N := 8) hx hb hts i_G hown hK hP 0 rfl rfl 4 (by decide) (hts _ fl_G_23) (fun _ h9 => h9) rfl d_G_measureWaysOf_6 ?_
    refine lv_icmp_ge (tgt := 73) hx hb d_G_measureWaysOf_9 (by decide) (fun hc => ?_) (fun hc => ?_)
    · rw [if_pos hc] at hf
      cases hf
      exact hk _ _ _ hP hD hS (lv_sub hl [2] rfl)
    · rw [if_neg hc] at hf
      refine lv_aload_n hx hb d_G_measureWaysOf_12 rfl (lv_at hl 0 rfl) ?_
      refine va_get (D := (dC, dI)) (ci := 0) (v := .ref (ad 1)) (C := R_G) (T := F_G) (N := 8) hx hb hts i_G hown hK hP 0 rfl rfl 0 (by decide) (hts _ fl_G_9) (fun _ h9 => h9) rfl d_G_measureWaysOf_13 ?_
      refine lv_iload_n hx hb d_G_measureWaysOf_16 rfl (lv_at hl 3 rfl) ?_
      obtain ⟨hi, hf⟩ := fg_og_some hf
      refine va_iald hx hb hK hP 1 0 rfl rfl (ix_in hi) d_G_measureWaysOf_17 ?_
      refine lv_istore (lv' := [(4, .int (B x3.toNatClampNeg)), (0, .ref (ad 0)), (1, .int x1), (2, .int x2), (3, .int x3)]) hx hb d_G_measureWaysOf_18 hl (by decide) rfl (fun ls hl => ?_)
      refine lv_aload_n hx hb d_G_measureWaysOf_20 rfl (lv_at hl 1 rfl) ?_
      refine va_get (D := (dC, dI)) (ci := 0) (v := .ref (ad 4)) (C := R_G) (T := F_G) (N := 8) hx hb hts i_G hown hK hP 0 rfl rfl 3 (by decide) (hts _ fl_G_19) (fun _ h9 => h9) rfl d_G_measureWaysOf_21 ?_
      refine lv_iload_n hx hb d_G_measureWaysOf_24 rfl (lv_at hl 4 rfl) ?_
      obtain ⟨hi, hf⟩ := fg_og_some hf
      refine va_zald hx hb hK hP 4 1 rfl rfl (ix_in hi) d_G_measureWaysOf_25 ?_
      refine lv_if_eq (tgt := 67) hx hb d_G_measureWaysOf_26 (by decide) (fun hc => ?_) (fun hc => ?_)
      · rw [if_pos hc] at hf
        refine lv_iinc (v := x3 + 1) (lv' := [(3, .int (x3 + 1)), (4, .int (B x3.toNatClampNeg)), (0, .ref (ad 0)), (1, .int x1), (2, .int x2)]) hx hb d_G_measureWaysOf_67 hl (k := 4) rfl rfl (by decide) rfl (fun ls hl => ?_)
        refine lv_goto (tgt := 4) hx hb d_G_measureWaysOf_70 (by decide) ?_
        exact ih x2 (x3 + 1) F _ hf _ _ _ hP hD hS (lv_sub hl [2, 3, 4, 0] rfl) hk
      · rw [if_neg hc] at hf
        refine lv_aload_n hx hb d_G_measureWaysOf_29 rfl (lv_at hl 1 rfl) ?_
        refine va_get (D := (dC, dI)) (ci := 0) (v := .ref (ad 5)) (C := R_G) (T := F_G) (N := 8) hx hb hts i_G hown hK hP 0 rfl rfl 5 (by decide) (hts _ fl_G_27) (fun _ h9 => h9) rfl d_G_measureWaysOf_30 ?_
        refine lv_iload hx hb d_G_measureWaysOf_33 (lv_at hl 0 rfl) ?_
        obtain ⟨hi, hf⟩ := fg_og_some hf
        refine va_iald hx hb hK hP 5 0 rfl rfl (ix_in hi) d_G_measureWaysOf_35 ?_
        refine lv_iconst (v := (-1)) hx hb d_G_measureWaysOf_36 (by decide) ?_
        refine lv_icmp_ne (tgt := 67) hx hb d_G_measureWaysOf_37 (by decide) (fun hc => ?_) (fun hc => ?_)
        · rw [if_neg hc] at hf
          refine lv_iinc (v := x3 + 1) (lv' := [(3, .int (x3 + 1)), (4, .int (B x3.toNatClampNeg)), (0, .ref (ad 0)), (1, .int x1), (2, .int x2)]) hx hb d_G_measureWaysOf_67 hl (k := 4) rfl rfl (by decide) rfl (fun ls hl => ?_)
          refine lv_goto (tgt := 4) hx hb d_G_measureWaysOf_70 (by decide) ?_
          exact ih x2 (x3 + 1) F _ hf _ _ _ hP hD hS (lv_sub hl [2, 3, 4, 0] rfl) hk
        · rw [if_pos hc] at hf
          refine lv_aload_n hx hb d_G_measureWaysOf_40 rfl (lv_at hl 1 rfl) ?_
          refine va_get (D := (dC, dI)) (ci := 0) (v := .ref (ad 5)) (C := R_G) (T := F_G) (N := 8) hx hb hts i_G hown hK hP 0 rfl rfl 5 (by decide) (hts _ fl_G_27) (fun _ h9 => h9) rfl d_G_measureWaysOf_41 ?_
          refine lv_aload_n hx hb d_G_measureWaysOf_44 rfl (lv_at hl 1 rfl) ?_
          refine va_get (D := (dC, dI)) (ci := 0) (v := .ref (ad 2)) (C := R_G) (T := F_G) (N := 8) hx hb hts i_G hown hK hP 0 rfl rfl 1 (by decide) (hts _ fl_G_13) (fun _ h9 => h9) rfl d_G_measureWaysOf_45 ?_
          refine lv_iload_n hx hb d_G_measureWaysOf_48 rfl (lv_at hl 4 rfl) ?_
          obtain ⟨hi, hf⟩ := fg_og_some hf
          refine va_iald hx hb hK hP 2 0 rfl rfl (ix_in hi) d_G_measureWaysOf_49 ?_
          obtain ⟨hi, hf⟩ := fg_og_some hf
          refine va_iald hx hb hK hP 5 0 rfl rfl (ix_in hi) d_G_measureWaysOf_50 ?_
          refine lv_iload_n hx hb d_G_measureWaysOf_51 rfl (lv_at hl 2 rfl) ?_
          refine lv_iconst (v := 1) hx hb d_G_measureWaysOf_52 (by decide) ?_
          refine lv_isub hx hb d_G_measureWaysOf_53 ?_
          refine lv_icmp_ne (tgt := 67) hx hb d_G_measureWaysOf_54 (by decide) (fun hc => ?_) (fun hc => ?_)
          · rw [if_neg hc] at hf
            refine lv_iinc (v := x3 + 1) (lv' := [(3, .int (x3 + 1)), (4, .int (B x3.toNatClampNeg)), (0, .ref (ad 0)), (1, .int x1), (2, .int x2)]) hx hb d_G_measureWaysOf_67 hl (k := 4) rfl rfl (by decide) rfl (fun ls hl => ?_)
            refine lv_goto (tgt := 4) hx hb d_G_measureWaysOf_70 (by decide) ?_
            exact ih x2 (x3 + 1) F _ hf _ _ _ hP hD hS (lv_sub hl [2, 3, 4, 0] rfl) hk
          · rw [if_pos hc] at hf
            refine lv_aload_n hx hb d_G_measureWaysOf_57 rfl (lv_at hl 1 rfl) ?_
            refine va_get (D := (dC, dI)) (ci := 0) (v := .ref (ad 5)) (C := R_G) (T := F_G) (N := 8) hx hb hts i_G hown hK hP 0 rfl rfl 5 (by decide) (hts _ fl_G_27) (fun _ h9 => h9) rfl d_G_measureWaysOf_58 ?_
            refine lv_iload hx hb d_G_measureWaysOf_61 (lv_at hl 0 rfl) ?_
            refine lv_iload_n hx hb d_G_measureWaysOf_63 rfl (lv_at hl 2 rfl) ?_
            obtain ⟨hi, hf⟩ := fg_og_some hf
            refine va_iast hx hb hK hP hD hS 5 0 rfl rfl (ix_in hi) d_G_measureWaysOf_64 (fun H locs hP hD hS => ?_)
            have hP : va_P (dC, dI) classes (gW cI cZ ad B E C O n (upd F (B x3.toNatClampNeg).toNatClampNeg x1) L V) H := hP
            have hD : va_D A (gW cI cZ ad B E C O n (upd F (B x3.toNatClampNeg).toNatClampNeg x1) L V) := hD
            refine lv_iconst (v := 1) hx hb d_G_measureWaysOf_65 (by decide) ?_
            refine lv_istore_n (lv' := [(2, .int 1), (4, .int (B x3.toNatClampNeg)), (0, .ref (ad 0)), (1, .int x1), (3, .int x3)]) hx hb d_G_measureWaysOf_66 rfl hl (by decide) rfl (fun ls hl => ?_)
            refine lv_iinc (v := x3 + 1) (lv' := [(3, .int (x3 + 1)), (2, .int 1), (4, .int (B x3.toNatClampNeg)), (0, .ref (ad 0)), (1, .int x1)]) hx hb d_G_measureWaysOf_67 hl (k := 4) rfl rfl (by decide) rfl (fun ls hl => ?_)
            refine lv_goto (tgt := 4) hx hb d_G_measureWaysOf_70 (by decide) ?_
            exact ih 1 (x3 + 1) (upd F (B x3.toNatClampNeg).toNatClampNeg x1) _ hf _ _ _ hP hD hS (lv_sub hl [3, 4, 1, 0] rfl) hk
set_option maxHeartbeats 4000000 in
set_option maxRecDepth 100000 in
theorem c_G_measureWaysOf (l : Launch) (dC : Nat → ClassId) (dI : Nat → Nat → Nat) (cI cZ : ClassId) (ad : Nat → Nat) (sz : Nat) (B : fg_A) (E : fg_A) (C : fg_A) (O : fg_A) (n : Int32) (F : fg_A) (L : fg_A) (V : fg_A) (p0 : Int32) (o : Int32 × fg_A) (hf : f_G_measureWaysOf B E O n F p0 = some o) : Met l y_G_measureWaysOf w_G_measureWaysOf rm_G_measureWaysOf (gW_Pc dC dI cI cZ ad sz B E C O n F L V [.ref (ad 0), .int p0]) (gW_Qi dC dI cI cZ ad (va_A (gW cI cZ ad B E C O n F L V) sz) B E C O n o.2 L V o.1) 0 0 (va_A (gW cI cZ ad B E C O n F L V) sz) := by
  refine Met.ofW (cc := b_G_measureWaysOf) (maxL := 5) (ret := (some .boolean)) (by decide) rfl ?_
  intro p e s m args below meth c s₁ Bd hml hv
  obtain ⟨rfl, hsz, hP, hK, hD0⟩ := hv
  have hx := Bd.exec
  have hb := Bd.bytes
  have hr := Bd.returns
  have hts := fun w h => atoms_spec (ws := w_G_measureWaysOf) Bd.pre w (List.mem_cons_of_mem _ h)
  have hown : s.vm.findClass R_G = some m.cls := findClass_of_methodNamed Bd.named
  have hlocks := Bd.notSynchronized
  subst hsz
  have hD := hD0.self (sz := s.heap.size)
  generalize hAe : va_A (gW cI cZ ad B E C O n F L V) s.heap.size = A at hD ⊢
  have hA : ∀ q : Nat, s.heap.size ≤ q → A q := fun q h => by rw [← hAe]; exact Or.inr h
  have hS : va_S A s.heap s.heap [] := va_S.rf
  have hl := lv_entry ([.ref (ad 0), .int p0]) (n := 5) (Nat.le_of_ble_eq_true rfl)
  rw [lg_entry_eq]
  generalize (lg_sl ([.ref (ad 0), .int p0]) ++ List.replicate (5 - (lg_sl ([.ref (ad 0), .int p0])).length) Slot.unset).toArray = ls at hl ⊢
  have hl : lv_has ls 5 [(0, .ref (ad 0)), (1, .int p0)] := hl
  have hE : ∀ (pc : Nat) (H : Heap) (locs : List Loc) (ls : Array Slot), va_P (dC, dI) classes (gW cI cZ ad B E C O n o.2 L V) H → va_D A (gW cI cZ ad B E C O n o.2 L V) → va_S A s.heap H locs → narrow .boolean (.int o.1) = .int o.1 → decode b_G_measureWaysOf pc = .ok (.ireturn, 1) → W p l e (headSpec w_G_measureWaysOf rm_G_measureWaysOf).room s m ([.ref (ad 0), .int p0] : List Value).toArray below meth c H locs 0 0 (MQ below (gW_Qi dC dI cI cZ ad A B E C O n o.2 L V o.1) ([.ref (ad 0), .int p0] : List Value).toArray s 0 0 A) (F0 m pc ls [.int o.1]) := fun pc H locs ls hP hD hS hn hd => W.zret (v := o.1) hx hb hr hn (fun t ht hW => ⟨⟨o.1, (), rfl, rfl, by rw [ht]; exact hP, va_K.moved hW.alike hK, hD⟩, hS.F ht⟩) hS.2.2 hd
  unfold f_G_measureWaysOf at hf
  refine lv_iconst (v := 0) hx hb d_G_measureWaysOf_0 (by decide) ?_
  refine lv_istore_n (lv' := [(2, .int 0), (0, .ref (ad 0)), (1, .int p0)]) hx hb d_G_measureWaysOf_1 rfl hl (by decide) rfl (fun ls hl => ?_)
  refine lv_iconst (v := 0) hx hb d_G_measureWaysOf_2 (by decide) ?_
  refine lv_istore_n (lv' := [(3, .int 0), (2, .int 0), (0, .ref (ad 0)), (1, .int p0)]) hx hb d_G_measureWaysOf_3 rfl hl (by decide) rfl (fun ls hl => ?_)
  obtain ⟨o1, hco1, hf⟩ := fg_ob_some hf
  refine w_G_measureWaysOf_4 hx hb hml hown hts hK hA p0 B E C O n L V fu 0 0 F o1 hco1 _ _ _ hP hD hS (lv_sub hl [2, 3, 1, 0] rfl) (fun H locs ls hP hD hS hl => ?_)
  refine lv_iload_n hx hb d_G_measureWaysOf_73 rfl (lv_at hl 0 rfl) ?_
  obtain ⟨hn, hf⟩ := fg_og_some hf
  cases hf
  exact hE _ _ _ _ hP hD hS (nb_narrow hn) d_G_measureWaysOf_74
