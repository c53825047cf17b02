set_option maxHeartbeats 4000000 in
set_option maxRecDepth 100000 in
theorem w_G_leastRuleOnward_2 {p : Program} {l : Launch} {e : Env} {s : State} {m : MethodId} {args : Array Value} {below : List Frame} {meth : Method} {c : Code} {Q : State → Prop} {A : Nat → Prop} {dC : Nat → ClassId} {dI : Nat → Nat → Nat} {cI cZ : ClassId} {ad : Nat → Nat} (hx : p.tables.exec = Jvm.exec) (hb : c.code = b_G_leastRuleOnward) (hml : c.maxLocals = 3) (hown : s.vm.findClass R_G = some m.cls) (hts : ∀ w ∈ gw, w.before args s = true) (hK : va_K (dC, dI) classes (gT cI cZ) s) (hA : ∀ q : Nat, s.heap.size ≤ q → A q) (x1 : Int32) (B : fg_A) (E : fg_A) (C : fg_A) (O : fg_A) (n : Int32) (F : fg_A) (L : fg_A) (V : fg_A) :
    ∀ (k : Nat) (x2 : Int32) (o : Int32), f_G_leastRuleOnward_2 B E O n F x1 k x2 = some o → ∀ (H : Heap) (locs : List Loc) (ls : Array Slot), va_P (dC, dI) classes (gW cI cZ ad B E C O n F L V) H → va_D A (gW cI cZ ad B E C O n F L V) → va_S A s.heap H locs → lv_has ls 3 [(0, .ref (ad 0)), (1, .int x1), (2, .int x2)] →
    (∀ (pc : Nat) (H : Heap) (locs : List Loc) (ls : Array Slot), va_P (dC, dI) classes (gW cI cZ ad B E C O n F L V) H → va_D A (gW cI cZ ad B E C O n F L V) → va_S A s.heap H locs → decode b_G_leastRuleOnward pc = .ok (.ireturn, 1) → W p l e (headSpec w_G_leastRuleOnward rm_G_leastRuleOnward).room s m args below meth c H locs 0 0 Q (F0 m pc ls [.int o])) → W p l e (headSpec w_G_leastRuleOnward rm_G_leastRuleOnward).room s m args below meth c H locs 0 0 Q (F0 m 2 ls []) := by
  intro k
  induction k with
  | zero =>
    intro x2 o hf
    exact absurd (show none = some o from hf) (by simp)
  | succ k ih =>
    intro x2 o hf H locs ls hP hD hS hl hE
    rw [f_G_leastRuleOnward_2] at hf
    refine lv_iload_n hx hb d_G_leastRuleOnward_2 rfl (lv_at hl 2 rfl) ?_
    refine lv_aload_n hx hb d_G_leastRuleOnward_3 rfl (lv_at hl 0 rfl) ?_
    refine va_get (D := (dC, dI)) (ci := 0) (v := .int n) (C := R_G) (T := F_G) (N := 8) hx hb hts i_G hown hK hP 0 rfl rfl 4 (by decide) (hts _ fl_G_23) (fun _ h9 => h9) rfl d_G_leastRuleOnward_4 ?_
    refine lv_icmp_ge (tgt := 59) hx hb d_G_leastRuleOnward_7 (by decide) (fun hc => ?_) (fun hc => ?_)
    · rw [if_pos hc] at hf
      refine lv_iconst (v := (-1)) hx hb d_G_leastRuleOnward_59 (by decide) ?_
      cases hf
      exact hE _ _ _ _ hP hD hS d_G_leastRuleOnward_60
    · rw [if_neg hc] at hf
      refine lv_aload_n hx hb d_G_leastRuleOnward_10 rfl (lv_at hl 0 rfl) ?_
      refine va_get (D := (dC, dI)) (ci := 0) (v := .ref (ad 4)) (C := R_G) (T := F_G) (N := 8) hx hb hts i_G hown hK hP 0 rfl rfl 3 (by decide) (hts _ fl_G_19) (fun _ h9 => h9) rfl d_G_leastRuleOnward_11 ?_
      refine lv_iload_n hx hb d_G_leastRuleOnward_14 rfl (lv_at hl 2 rfl) ?_
      obtain ⟨hi, hf⟩ := fg_og_some hf
      refine va_zald hx hb hK hP 4 1 rfl rfl (ix_in hi) d_G_leastRuleOnward_15 ?_
      refine lv_if_eq (tgt := 53) hx hb d_G_leastRuleOnward_16 (by decide) (fun hc => ?_) (fun hc => ?_)
      · rw [if_pos hc] at hf
        refine lv_iinc (v := x2 + 1) (lv' := [(2, .int (x2 + 1)), (0, .ref (ad 0)), (1, .int x1)]) hx hb d_G_leastRuleOnward_53 hl (k := 2) rfl rfl (by decide) rfl (fun ls hl => ?_)
        refine lv_goto (tgt := 2) hx hb d_G_leastRuleOnward_56 (by decide) ?_
        exact ih (x2 + 1) _ hf _ _ _ hP hD hS (lv_sub hl [1, 2, 0] rfl) hE
      · rw [if_neg hc] at hf
        refine lv_aload_n hx hb d_G_leastRuleOnward_19 rfl (lv_at hl 0 rfl) ?_
        refine va_get (D := (dC, dI)) (ci := 0) (v := .ref (ad 1)) (C := R_G) (T := F_G) (N := 8) hx hb hts i_G hown hK hP 0 rfl rfl 0 (by decide) (hts _ fl_G_9) (fun _ h9 => h9) rfl d_G_leastRuleOnward_20 ?_
        refine lv_iload_n hx hb d_G_leastRuleOnward_23 rfl (lv_at hl 2 rfl) ?_
        obtain ⟨hi, hf⟩ := fg_og_some hf
        refine va_iald hx hb hK hP 1 0 rfl rfl (ix_in hi) d_G_leastRuleOnward_24 ?_
        refine lv_iload_n hx hb d_G_leastRuleOnward_25 rfl (lv_at hl 1 rfl) ?_
        refine lv_icmp_ne (tgt := 53) hx hb d_G_leastRuleOnward_26 (by decide) (fun hc => ?_) (fun hc => ?_)
        · rw [if_neg hc] at hf
          refine lv_iinc (v := x2 + 1) (lv' := [(2, .int (x2 + 1)), (0, .ref (ad 0)), (1, .int x1)]) hx hb d_G_leastRuleOnward_53 hl (k := 2) rfl rfl (by decide) rfl (fun ls hl => ?_)
          refine lv_goto (tgt := 2) hx hb d_G_leastRuleOnward_56 (by decide) ?_
          exact ih (x2 + 1) _ hf _ _ _ hP hD hS (lv_sub hl [1, 2, 0] rfl) hE
        · rw [if_pos hc] at hf
          refine lv_aload_n hx hb d_G_leastRuleOnward_29 rfl (lv_at hl 0 rfl) ?_
          refine va_get (D := (dC, dI)) (ci := 0) (v := .ref (ad 5)) (C := R_G) (T := F_G) (N := 8) hx hb hts i_G hown hK hP 0 rfl rfl 5 (by decide) (hts _ fl_G_27) (fun _ h9 => h9) rfl d_G_leastRuleOnward_30 ?_
          refine lv_aload_n hx hb d_G_leastRuleOnward_33 rfl (lv_at hl 0 rfl) ?_
          refine va_get (D := (dC, dI)) (ci := 0) (v := .ref (ad 2)) (C := R_G) (T := F_G) (N := 8) hx hb hts i_G hown hK hP 0 rfl rfl 1 (by decide) (hts _ fl_G_13) (fun _ h9 => h9) rfl d_G_leastRuleOnward_34 ?_
          refine lv_iload_n hx hb d_G_leastRuleOnward_37 rfl (lv_at hl 2 rfl) ?_
          obtain ⟨hi, hf⟩ := fg_og_some hf
          refine va_iald hx hb hK hP 2 0 rfl rfl (ix_in hi) d_G_leastRuleOnward_38 ?_
          obtain ⟨hi, hf⟩ := fg_og_some hf
          refine va_iald hx hb hK hP 5 0 rfl rfl (ix_in hi) d_G_leastRuleOnward_39 ?_
          refine lv_aload_n hx hb d_G_leastRuleOnward_40 rfl (lv_at hl 0 rfl) ?_
          refine va_get (D := (dC, dI)) (ci := 0) (v := .ref (ad 5)) (C := R_G) (T := F_G) (N := 8) hx hb hts i_G hown hK hP 0 rfl rfl 5 (by decide) (hts _ fl_G_27) (fun _ h9 => h9) rfl d_G_leastRuleOnward_41 ?_
          refine lv_iload_n hx hb d_G_leastRuleOnward_44 rfl (lv_at hl 1 rfl) ?_
          obtain ⟨hi, hf⟩ := fg_og_some hf
          refine va_iald hx hb hK hP 5 0 rfl rfl (ix_in hi) d_G_leastRuleOnward_45 ?_
          refine lv_iconst (v := 1) hx hb d_G_leastRuleOnward_46 (by decide) ?_
          refine lv_isub hx hb d_G_leastRuleOnward_47 ?_
          refine lv_icmp_ne (tgt := 53) hx hb d_G_leastRuleOnward_48 (by decide) (fun hc => ?_) (fun hc => ?_)
          · rw [if_neg hc] at hf
            refine lv_iinc (v := x2 + 1) (lv' := [(2, .int (x2 + 1)), (0, .ref (ad 0)), (1, .int x1)]) hx hb d_G_leastRuleOnward_53 hl (k := 2) rfl rfl (by decide) rfl (fun ls hl => ?_)
            refine lv_goto (tgt := 2) hx hb d_G_leastRuleOnward_56 (by decide) ?_
            exact ih (x2 + 1) _ hf _ _ _ hP hD hS (lv_sub hl [1, 2, 0] rfl) hE
          · rw [if_pos hc] at hf
            refine lv_iload_n hx hb d_G_leastRuleOnward_51 rfl (lv_at hl 2 rfl) ?_
            cases hf
            exact hE _ _ _ _ hP hD hS d_G_leastRuleOnward_52
set_option maxHeartbeats 4000000 in
set_option maxRecDepth 100000 in
theorem c_G_leastRuleOnward (l : Launch) (dC : Nat → ClassId) (dI : Nat → Nat → Nat) (cI cZ : ClassId) (ad : Nat → Nat) (sz : Nat) (B : fg_A) (E : fg_A) (C : fg_A) (O : fg_A) (n : Int32) (F : fg_A) (L : fg_A) (V : fg_A) (p0 : Int32) (o : Int32) (hf : f_G_leastRuleOnward B E O n F p0 = some o) : Met l y_G_leastRuleOnward w_G_leastRuleOnward rm_G_leastRuleOnward (gW_Pc dC dI cI cZ ad sz B E C O n F L V [.ref (ad 0), .int p0]) (gW_Qi dC dI cI cZ ad (va_A (gW cI cZ ad B E C O n F L V) sz) B E C O n F L V o) 0 0 (va_A (gW cI cZ ad B E C O n F L V) sz) := by
  refine Met.ofW (cc := b_G_leastRuleOnward) (maxL := 3) (ret := (some .int)) (by decide) rfl ?_
  intro p e s m args below meth c s₁ Bd hml hv
  obtain ⟨rfl, hsz, hP, hK, hD0⟩ := hv
  have hx := Bd.exec
  have hb := Bd.bytes
  have hr := Bd.returns
  have hts := fun w h => atoms_spec (ws := w_G_leastRuleOnward) Bd.pre w (List.mem_cons_of_mem _ h)
  have hown : s.vm.findClass R_G = some m.cls := findClass_of_methodNamed Bd.named
  have hlocks := Bd.notSynchronized
  subst hsz
  have hD := hD0.self (sz := s.heap.size)
  generalize hAe : va_A (gW cI cZ ad B E C O n F L V) s.heap.size = A at hD ⊢
  have hA : ∀ q : Nat, s.heap.size ≤ q → A q := fun q h => by rw [← hAe]; exact Or.inr h
  have hS : va_S A s.heap s.heap [] := va_S.rf
  have hl := lv_entry ([.ref (ad 0), .int p0]) (n := 3) (Nat.le_of_ble_eq_true rfl)
  rw [lg_entry_eq]
  generalize (lg_sl ([.ref (ad 0), .int p0]) ++ List.replicate (3 - (lg_sl ([.ref (ad 0), .int p0])).length) Slot.unset).toArray = ls at hl ⊢
  have hl : lv_has ls 3 [(0, .ref (ad 0)), (1, .int p0)] := hl
  have hE : ∀ (pc : Nat) (H : Heap) (locs : List Loc) (ls : Array Slot), va_P (dC, dI) classes (gW cI cZ ad B E C O n F L V) H → va_D A (gW cI cZ ad B E C O n F L V) → va_S A s.heap H locs → decode b_G_leastRuleOnward pc = .ok (.ireturn, 1) → W p l e (headSpec w_G_leastRuleOnward rm_G_leastRuleOnward).room s m ([.ref (ad 0), .int p0] : List Value).toArray below meth c H locs 0 0 (MQ below (gW_Qi dC dI cI cZ ad A B E C O n F L V o) ([.ref (ad 0), .int p0] : List Value).toArray s 0 0 A) (F0 m pc ls [.int o]) := fun pc H locs ls hP hD hS hd => W.iret (v := o) hx hb hr (fun t ht hW => ⟨⟨o, (), rfl, rfl, by rw [ht]; exact hP, va_K.moved hW.alike hK, hD⟩, hS.F ht⟩) hS.2.2 hd
  unfold f_G_leastRuleOnward at hf
  refine lv_iconst (v := 0) hx hb d_G_leastRuleOnward_0 (by decide) ?_
  refine lv_istore_n (lv' := [(2, .int 0), (0, .ref (ad 0)), (1, .int p0)]) hx hb d_G_leastRuleOnward_1 rfl hl (by decide) rfl (fun ls hl => ?_)
  exact w_G_leastRuleOnward_2 hx hb hml hown hts hK hA p0 B E C O n F L V fu 0 _ hf _ _ _ hP hD hS (lv_sub hl [1, 2, 0] rfl) hE
set_option maxHeartbeats 4000000 in
set_option maxRecDepth 100000 in
theorem c_G_nodeBefore (l : Launch) (dC : Nat → ClassId) (dI : Nat → Nat → Nat) (cI cZ : ClassId) (ad : Nat → Nat) (sz : Nat) (B : fg_A) (E : fg_A) (C : fg_A) (O : fg_A) (n : Int32) (F : fg_A) (L : fg_A) (V : fg_A) (p0 : Int32) (o : Int32) (hf : f_G_nodeBefore B E V p0 = some o) : Met l y_G_nodeBefore w_G_nodeBefore rm_G_nodeBefore (gW_Pc dC dI cI cZ ad sz B E C O n F L V [.ref (ad 0), .int p0]) (gW_Qi dC dI cI cZ ad (va_A (gW cI cZ ad B E C O n F L V) sz) B E C O n F L V o) 0 0 (va_A (gW cI cZ ad B E C O n F L V) sz) := by
  refine Met.ofW (cc := b_G_nodeBefore) (maxL := 3) (ret := (some .int)) (by decide) rfl ?_
  intro p e s m args below meth c s₁ Bd hml hv
  obtain ⟨rfl, hsz, hP, hK, hD0⟩ := hv
  have hx := Bd.exec
  have hb := Bd.bytes
  have hr := Bd.returns
  have hts := fun w h => atoms_spec (ws := w_G_nodeBefore) Bd.pre w (List.mem_cons_of_mem _ h)
  have hown : s.vm.findClass R_G = some m.cls := findClass_of_methodNamed Bd.named
  have hlocks := Bd.notSynchronized
  subst hsz
  have hD := hD0.self (sz := s.heap.size)
  generalize hAe : va_A (gW cI cZ ad B E C O n F L V) s.heap.size = A at hD ⊢
  have hA : ∀ q : Nat, s.heap.size ≤ q → A q := fun q h => by rw [← hAe]; exact Or.inr h
  have hS : va_S A s.heap s.heap [] := va_S.rf
  have hl := lv_entry ([.ref (ad 0), .int p0]) (n := 3) (Nat.le_of_ble_eq_true rfl)
  rw [lg_entry_eq]
  generalize (lg_sl ([.ref (ad 0), .int p0]) ++ List.replicate (3 - (lg_sl ([.ref (ad 0), .int p0])).length) Slot.unset).toArray = ls at hl ⊢
  have hl : lv_has ls 3 [(0, .ref (ad 0)), (1, .int p0)] := hl
  have hE : ∀ (pc : Nat) (H : Heap) (locs : List Loc) (ls : Array Slot), va_P (dC, dI) classes (gW cI cZ ad B E C O n F L V) H → va_D A (gW cI cZ ad B E C O n F L V) → va_S A s.heap H locs → decode b_G_nodeBefore pc = .ok (.ireturn, 1) → W p l e (headSpec w_G_nodeBefore rm_G_nodeBefore).room s m ([.ref (ad 0), .int p0] : List Value).toArray below meth c H locs 0 0 (MQ below (gW_Qi dC dI cI cZ ad A B E C O n F L V o) ([.ref (ad 0), .int p0] : List Value).toArray s 0 0 A) (F0 m pc ls [.int o]) := fun pc H locs ls hP hD hS hd => W.iret (v := o) hx hb hr (fun t ht hW => ⟨⟨o, (), rfl, rfl, by rw [ht]; exact hP, va_K.moved hW.alike hK, hD⟩, hS.F ht⟩) hS.2.2 hd
  unfold f_G_nodeBefore at hf
  refine lv_aload_n hx hb d_G_nodeBefore_0 rfl (lv_at hl 0 rfl) ?_
  refine va_get (D := (dC, dI)) (ci := 0) (v := .ref (ad 7)) (C := R_G) (T := F_G) (N := 8) hx hb hts i_G hown hK hP 0 rfl rfl 7 (by decide) (hts _ fl_G_33) (fun _ h9 => h9) rfl d_G_nodeBefore_1 ?_
  refine lv_iload_n hx hb d_G_nodeBefore_4 rfl (lv_at hl 1 rfl) ?_
  obtain ⟨hi, hf⟩ := fg_og_some hf
  refine va_iald hx hb hK hP 7 0 rfl rfl (ix_in hi) d_G_nodeBefore_5 ?_
  refine lv_istore_n (lv' := [(2, .int (V p0.toNatClampNeg)), (0, .ref (ad 0)), (1, .int p0)]) hx hb d_G_nodeBefore_6 rfl hl (by decide) rfl (fun ls hl => ?_)
  refine lv_aload_n hx hb d_G_nodeBefore_7 rfl (lv_at hl 1 rfl) ?_
  refine va_get (D := (dC, dI)) (ci := 0) (v := .ref (ad 2)) (C := R_G) (T := F_G) (N := 8) hx hb hts i_G hown hK hP 0 rfl rfl 1 (by decide) (hts _ fl_G_13) (fun _ h9 => h9) rfl d_G_nodeBefore_8 ?_
  refine lv_iload_n hx hb d_G_nodeBefore_11 rfl (lv_at hl 0 rfl) ?_
  obtain ⟨hi, hf⟩ := fg_og_some hf
  refine va_iald hx hb hK hP 2 0 rfl rfl (ix_in hi) d_G_nodeBefore_12 ?_
  refine lv_iload_n hx hb d_G_nodeBefore_13 rfl (lv_at hl 2 rfl) ?_
  refine lv_icmp_ne (tgt := 26) hx hb d_G_nodeBefore_14 (by decide) (fun hc => ?_) (fun hc => ?_)
  · rw [if_neg hc] at hf
    refine lv_aload_n hx hb d_G_nodeBefore_26 rfl (lv_at hl 1 rfl) ?_
    refine va_get (D := (dC, dI)) (ci := 0) (v := .ref (ad 2)) (C := R_G) (T := F_G) (N := 8) hx hb hts i_G hown hK hP 0 rfl rfl 1 (by decide) (hts _ fl_G_13) (fun _ h9 => h9) rfl d_G_nodeBefore_27 ?_
    refine lv_iload_n hx hb d_G_nodeBefore_30 rfl (lv_at hl 0 rfl) ?_
    obtain ⟨hi, hf⟩ := fg_og_some hf
    refine va_iald hx hb hK hP 2 0 rfl rfl (ix_in hi) d_G_nodeBefore_31 ?_
    cases hf
    exact hE _ _ _ _ hP hD hS d_G_nodeBefore_32
  · rw [if_pos hc] at hf
    refine lv_aload_n hx hb d_G_nodeBefore_17 rfl (lv_at hl 1 rfl) ?_
    refine va_get (D := (dC, dI)) (ci := 0) (v := .ref (ad 1)) (C := R_G) (T := F_G) (N := 8) hx hb hts i_G hown hK hP 0 rfl rfl 0 (by decide) (hts _ fl_G_9) (fun _ h9 => h9) rfl d_G_nodeBefore_18 ?_
    refine lv_iload_n hx hb d_G_nodeBefore_21 rfl (lv_at hl 0 rfl) ?_
    obtain ⟨hi, hf⟩ := fg_og_some hf
    refine va_iald hx hb hK hP 1 0 rfl rfl (ix_in hi) d_G_nodeBefore_22 ?_
    refine lv_goto (tgt := 32) hx hb d_G_nodeBefore_23 (by decide) ?_
    cases hf
    exact hE _ _ _ _ hP hD hS d_G_nodeBefore_32
set_option maxHeartbeats 4000000 in
set_option maxRecDepth 100000 in
theorem c_G_roomInto (l : Launch) (dC : Nat → ClassId) (dI : Nat → Nat → Nat) (cI cZ : ClassId) (ad : Nat → Nat) (sz : Nat) (B : fg_A) (E : fg_A) (C : fg_A) (O : fg_A) (n : Int32) (F : fg_A) (L : fg_A) (V : fg_A) (p0 : Int32) (o : Int32) (hf : f_G_roomInto E C L V p0 = some o) : Met l y_G_roomInto w_G_roomInto rm_G_roomInto (gW_Pc dC dI cI cZ ad sz B E C O n F L V [.ref (ad 0), .int p0]) (gW_Qi dC dI cI cZ ad (va_A (gW cI cZ ad B E C O n F L V) sz) B E C O n F L V o) 0 0 (va_A (gW cI cZ ad B E C O n F L V) sz) := by
  refine Met.ofW (cc := b_G_roomInto) (maxL := 3) (ret := (some .int)) (by decide) rfl ?_
  intro p e s m args below meth c s₁ Bd hml hv
  obtain ⟨rfl, hsz, hP, hK, hD0⟩ := hv
  have hx := Bd.exec
  have hb := Bd.bytes
  have hr := Bd.returns
  have hts := fun w h => atoms_spec (ws := w_G_roomInto) Bd.pre w (List.mem_cons_of_mem _ h)
  have hown : s.vm.findClass R_G = some m.cls := findClass_of_methodNamed Bd.named
  have hlocks := Bd.notSynchronized
  subst hsz
  have hD := hD0.self (sz := s.heap.size)
  generalize hAe : va_A (gW cI cZ ad B E C O n F L V) s.heap.size = A at hD ⊢
  have hA : ∀ q : Nat, s.heap.size ≤ q → A q := fun q h => by rw [← hAe]; exact Or.inr h
  have hS : va_S A s.heap s.heap [] := va_S.rf
  have hl := lv_entry ([.ref (ad 0), .int p0]) (n := 3) (Nat.le_of_ble_eq_true rfl)
  rw [lg_entry_eq]
  generalize (lg_sl ([.ref (ad 0), .int p0]) ++ List.replicate (3 - (lg_sl ([.ref (ad 0), .int p0])).length) Slot.unset).toArray = ls at hl ⊢
  have hl : lv_has ls 3 [(0, .ref (ad 0)), (1, .int p0)] := hl
  have hE : ∀ (pc : Nat) (H : Heap) (locs : List Loc) (ls : Array Slot), va_P (dC, dI) classes (gW cI cZ ad B E C O n F L V) H → va_D A (gW cI cZ ad B E C O n F L V) → va_S A s.heap H locs → decode b_G_roomInto pc = .ok (.ireturn, 1) → W p l e (headSpec w_G_roomInto rm_G_roomInto).room s m ([.ref (ad 0), .int p0] : List Value).toArray below meth c H locs 0 0 (MQ below (gW_Qi dC dI cI cZ ad A B E C O n F L V o) ([.ref (ad 0), .int p0] : List Value).toArray s 0 0 A) (F0 m pc ls [.int o]) := fun pc H locs ls hP hD hS hd => W.iret (v := o) hx hb hr (fun t ht hW => ⟨⟨o, (), rfl, rfl, by rw [ht]; exact hP, va_K.moved hW.alike hK, hD⟩, hS.F ht⟩) hS.2.2 hd
  unfold f_G_roomInto at hf
  refine lv_aload_n hx hb d_G_roomInto_0 rfl (lv_at hl 0 rfl) ?_
  refine va_get (D := (dC, dI)) (ci := 0) (v := .ref (ad 7)) (C := R_G) (T := F_G) (N := 8) hx hb hts i_G hown hK hP 0 rfl rfl 7 (by decide) (hts _ fl_G_33) (fun _ h9 => h9) rfl d_G_roomInto_1 ?_
  refine lv_iload_n hx hb d_G_roomInto_4 rfl (lv_at hl 1 rfl) ?_
  obtain ⟨hi, hf⟩ := fg_og_some hf
  refine va_iald hx hb hK hP 7 0 rfl rfl (ix_in hi) d_G_roomInto_5 ?_
  refine lv_istore_n (lv' := [(2, .int (V p0.toNatClampNeg)), (0, .ref (ad 0)), (1, .int p0)]) hx hb d_G_roomInto_6 rfl hl (by decide) rfl (fun ls hl => ?_)
  refine lv_aload_n hx hb d_G_roomInto_7 rfl (lv_at hl 1 rfl) ?_
  refine va_get (D := (dC, dI)) (ci := 0) (v := .ref (ad 2)) (C := R_G) (T := F_G) (N := 8) hx hb hts i_G hown hK hP 0 rfl rfl 1 (by decide) (hts _ fl_G_13) (fun _ h9 => h9) rfl d_G_roomInto_8 ?_
  refine lv_iload_n hx hb d_G_roomInto_11 rfl (lv_at hl 0 rfl) ?_
  obtain ⟨hi, hf⟩ := fg_og_some hf
  refine va_iald hx hb hK hP 2 0 rfl rfl (ix_in hi) d_G_roomInto_12 ?_
  refine lv_iload_n hx hb d_G_roomInto_13 rfl (lv_at hl 2 rfl) ?_
  refine lv_icmp_ne (tgt := 33) hx hb d_G_roomInto_14 (by decide) (fun hc => ?_) (fun hc => ?_)
  · rw [if_neg hc] at hf
    refine lv_aload_n hx hb d_G_roomInto_33 rfl (lv_at hl 1 rfl) ?_
    refine va_get (D := (dC, dI)) (ci := 0) (v := .ref (ad 6)) (C := R_G) (T := F_G) (N := 8) hx hb hts i_G hown hK hP 0 rfl rfl 6 (by decide) (hts _ fl_G_30) (fun _ h9 => h9) rfl d_G_roomInto_34 ?_
    refine lv_iload_n hx hb d_G_roomInto_37 rfl (lv_at hl 0 rfl) ?_
    obtain ⟨hi, hf⟩ := fg_og_some hf
    refine va_iald hx hb hK hP 6 0 rfl rfl (ix_in hi) d_G_roomInto_38 ?_
    cases hf
    exact hE _ _ _ _ hP hD hS d_G_roomInto_39
  · rw [if_pos hc] at hf
    refine lv_aload_n hx hb d_G_roomInto_17 rfl (lv_at hl 1 rfl) ?_
    refine va_get (D := (dC, dI)) (ci := 0) (v := .ref (ad 3)) (C := R_G) (T := F_G) (N := 8) hx hb hts i_G hown hK hP 0 rfl rfl 2 (by decide) (hts _ fl_G_16) (fun _ h9 => h9) rfl d_G_roomInto_18 ?_
    refine lv_iload_n hx hb d_G_roomInto_21 rfl (lv_at hl 0 rfl) ?_
    obtain ⟨hi, hf⟩ := fg_og_some hf
    refine va_iald hx hb hK hP 3 0 rfl rfl (ix_in hi) d_G_roomInto_22 ?_
    refine lv_aload_n hx hb d_G_roomInto_23 rfl (lv_at hl 1 rfl) ?_
    refine va_get (D := (dC, dI)) (ci := 0) (v := .ref (ad 6)) (C := R_G) (T := F_G) (N := 8) hx hb hts i_G hown hK hP 0 rfl rfl 6 (by decide) (hts _ fl_G_30) (fun _ h9 => h9) rfl d_G_roomInto_24 ?_
    refine lv_iload_n hx hb d_G_roomInto_27 rfl (lv_at hl 0 rfl) ?_
    obtain ⟨hi, hf⟩ := fg_og_some hf
    refine va_iald hx hb hK hP 6 0 rfl rfl (ix_in hi) d_G_roomInto_28 ?_
    refine lv_isub hx hb d_G_roomInto_29 ?_
    refine lv_goto (tgt := 39) hx hb d_G_roomInto_30 (by decide) ?_
    cases hf
    exact hE _ _ _ _ hP hD hS d_G_roomInto_39
