set_option maxHeartbeats 4000000 in
set_option maxRecDepth 100000 in
theorem w_G_ruleOfLeastWay_8 {p : Program} {l : Launch} {e : Env} {s : State} {m : MethodId} {args : Array Value} {below : List Frame} {meth : Method} {c : Code} {Q : State → Prop} {A : Nat → Prop} {dC : Nat → ClassId} {dI : Nat → Nat → Nat} {cI cZ : ClassId} {ad : Nat → Nat} (hx : p.tables.exec = Jvm.exec) (hb : c.code = b_G_ruleOfLeastWay) (hml : c.maxLocals = 6) (hown : s.vm.findClass R_G = some m.cls) (hts : ∀ w ∈ gw, w.before args s = true) (hK : va_K (dC, dI) classes (gT cI cZ) s) (hA : ∀ q : Nat, s.heap.size ≤ q → A q) (x2 : Int32) (B : fg_A) (E : fg_A) (C : fg_A) (O : fg_A) (n : Int32) (F : fg_A) (L : fg_A) (V : fg_A) :
    ∀ (k : Nat) (x3 : Int32) (x4 : Int32) (x5 : Int32) (o : Int32), f_G_ruleOfLeastWay_8 B E O n F x2 k x3 x4 x5 = some o → ∀ (H : Heap) (locs : List Loc) (ls : Array Slot), va_P (dC, dI) classes (gW cI cZ ad B E C O n F L V) H → va_D A (gW cI cZ ad B E C O n F L V) → va_S A s.heap H locs → lv_has ls 6 [(0, .ref (ad 0)), (2, .int x2), (3, .int x3), (4, .int x4), (5, .int x5)] →
    (∀ (pc : Nat) (H : Heap) (locs : List Loc) (ls : Array Slot), va_P (dC, dI) classes (gW cI cZ ad B E C O n F L V) H → va_D A (gW cI cZ ad B E C O n F L V) → va_S A s.heap H locs → decode b_G_ruleOfLeastWay pc = .ok (.ireturn, 1) → W p l e (headSpec w_G_ruleOfLeastWay rm_G_ruleOfLeastWay).room s m args below meth c H locs 0 0 Q (F0 m pc ls [.int o])) → W p l e (headSpec w_G_ruleOfLeastWay rm_G_ruleOfLeastWay).room s m args below meth c H locs 0 0 Q (F0 m 8 ls []) := by
  intro k
  induction k with
  | zero =>
    intro x3 x4 x5 o hf
    exact absurd (show none = some o from hf) (by simp)
  | succ k ih =>
    intro x3 x4 x5 o hf H locs ls hP hD hS hl hE
    rw [f_G_ruleOfLeastWay_8] at hf
    refine lv_iload hx hb d_G_ruleOfLeastWay_8 (lv_at hl 4 rfl) ?_
    refine lv_iload_n hx hb d_G_ruleOfLeastWay_10 rfl (lv_at hl 1 rfl) ?_
    refine lv_icmp_gt (tgt := 43) hx hb d_G_ruleOfLeastWay_11 (by decide) (fun hc => ?_) (fun hc => ?_)
    · rw [if_pos hc] at hf
      refine lv_iload hx hb d_G_ruleOfLeastWay_43 (lv_at hl 3 rfl) ?_
      cases hf
      exact hE _ _ _ _ hP hD hS d_G_ruleOfLeastWay_45
    · rw [if_neg hc] at hf
      refine lv_aload_n hx hb d_G_ruleOfLeastWay_14 rfl (lv_at hl 0 rfl) ?_
      refine lv_iload_n hx hb d_G_ruleOfLeastWay_15 rfl (lv_at hl 2 rfl) ?_
      obtain ⟨o1, hco1, hf⟩ := fg_ob_some hf
      refine fgG_i (va_runV (As := [.int x3]) (rest := []) ⟨hx, hb, hml, hown, hts⟩ (c_G_leastRuleOnward l dC dI cI cZ ad _ B E C O n F L V x3 o1 hco1) (cwV 1 hts gv_G_104 rfl rfl rfl (by decide +kernel) ⟨Nat.le_of_ble_eq_true rfl, Nat.le_of_ble_eq_true rfl⟩) (gW_pre hK hP hD) rfl rfl hl.1 rfl (lv_room (Nat.le_of_ble_eq_true rfl)) d_G_ruleOfLeastWay_16 ⟨Nat.le_of_ble_eq_true rfl, Nat.le_of_ble_eq_true rfl⟩) hP hD hS hA (fun H locs hP hD hS => ?_)
      refine lv_istore (lv' := [(4, .int o1), (0, .ref (ad 0)), (2, .int x2), (3, .int x3), (5, .int x5)]) hx hb d_G_ruleOfLeastWay_19 hl (by decide) rfl (fun ls hl => ?_)
      refine lv_iload hx hb d_G_ruleOfLeastWay_21 (lv_at hl 0 rfl) ?_
      refine lv_iconst (v := (-1)) hx hb d_G_ruleOfLeastWay_23 (by decide) ?_
      refine lv_icmp_ne (tgt := 29) hx hb d_G_ruleOfLeastWay_24 (by decide) (fun hc => ?_) (fun hc => ?_)
      · rw [if_neg hc] at hf
        refine lv_aload_n hx hb d_G_ruleOfLeastWay_29 rfl (lv_at hl 1 rfl) ?_
        refine va_get (D := (dC, dI)) (ci := 0) (v := .ref (ad 2)) (C := R_G) (T := F_G) (N := 8) hx hb hts i_G hown hK hP 0 rfl rfl 1 (by decide) (hts _ fl_G_13) (fun _ h9 => h9) rfl d_G_ruleOfLeastWay_30 ?_
        refine lv_iload hx hb d_G_ruleOfLeastWay_33 (lv_at hl 0 rfl) ?_
        obtain ⟨hi, hf⟩ := fg_og_some hf
        refine va_iald hx hb hK hP 2 0 rfl rfl (ix_in hi) d_G_ruleOfLeastWay_35 ?_
        refine lv_istore_n (lv' := [(3, .int (E o1.toNatClampNeg)), (4, .int o1), (0, .ref (ad 0)), (2, .int x2), (5, .int x5)]) hx hb d_G_ruleOfLeastWay_36 rfl hl (by decide) rfl (fun ls hl => ?_)
        refine lv_iinc (v := x5 + 1) (lv' := [(5, .int (x5 + 1)), (3, .int (E o1.toNatClampNeg)), (4, .int o1), (0, .ref (ad 0)), (2, .int x2)]) hx hb d_G_ruleOfLeastWay_37 hl (k := 4) rfl rfl (by decide) rfl (fun ls hl => ?_)
        refine lv_goto (tgt := 8) hx hb d_G_ruleOfLeastWay_40 (by decide) ?_
        exact ih (E o1.toNatClampNeg) o1 (x5 + 1) _ hf _ _ _ hP hD hS (lv_sub hl [3, 4, 1, 2, 0] rfl) hE
      · rw [if_pos hc] at hf
        refine lv_iconst (v := (-1)) hx hb d_G_ruleOfLeastWay_27 (by decide) ?_
        cases hf
        exact hE _ _ _ _ hP hD hS d_G_ruleOfLeastWay_28
set_option maxHeartbeats 4000000 in
set_option maxRecDepth 100000 in
theorem c_G_ruleOfLeastWay (l : Launch) (dC : Nat → ClassId) (dI : Nat → Nat → Nat) (cI cZ : ClassId) (ad : Nat → Nat) (sz : Nat) (B : fg_A) (E : fg_A) (C : fg_A) (O : fg_A) (n : Int32) (F : fg_A) (L : fg_A) (V : fg_A) (p0 : Int32) (p1 : Int32) (o : Int32) (hf : f_G_ruleOfLeastWay B E O n F p0 p1 = some o) : Met l y_G_ruleOfLeastWay w_G_ruleOfLeastWay rm_G_ruleOfLeastWay (gW_Pc dC dI cI cZ ad sz B E C O n F L V [.ref (ad 0), .int p0, .int p1]) (gW_Qi dC dI cI cZ ad (va_A (gW cI cZ ad B E C O n F L V) sz) B E C O n F L V o) 0 0 (va_A (gW cI cZ ad B E C O n F L V) sz) := by
  refine Met.ofW (cc := b_G_ruleOfLeastWay) (maxL := 6) (ret := (some .int)) (by decide) rfl ?_
  intro p e s m args below meth c s₁ Bd hml hv
  obtain ⟨rfl, hsz, hP, hK, hD0⟩ := hv
  have hx := Bd.exec
  have hb := Bd.bytes
  have hr := Bd.returns
  have hts := fun w h => atoms_spec (ws := w_G_ruleOfLeastWay) Bd.pre w (List.mem_cons_of_mem _ h)
  have hown : s.vm.findClass R_G = some m.cls := findClass_of_methodNamed Bd.named
  have hlocks := Bd.notSynchronized
  subst hsz
  have hD := hD0.self (sz := s.heap.size)
  generalize hAe : va_A (gW cI cZ ad B E C O n F L V) s.heap.size = A at hD ⊢
  have hA : ∀ q : Nat, s.heap.size ≤ q → A q := fun q h => by rw [← hAe]; exact Or.inr h
  have hS : va_S A s.heap s.heap [] := va_S.rf
  have hl := lv_entry ([.ref (ad 0), .int p0, .int p1]) (n := 6) (Nat.le_of_ble_eq_true rfl)
  rw [lg_entry_eq]
  generalize (lg_sl ([.ref (ad 0), .int p0, .int p1]) ++ List.replicate (6 - (lg_sl ([.ref (ad 0), .int p0, .int p1])).length) Slot.unset).toArray = ls at hl ⊢
  have hl : lv_has ls 6 [(0, .ref (ad 0)), (1, .int p0), (2, .int p1)] := hl
  have hE : ∀ (pc : Nat) (H : Heap) (locs : List Loc) (ls : Array Slot), va_P (dC, dI) classes (gW cI cZ ad B E C O n F L V) H → va_D A (gW cI cZ ad B E C O n F L V) → va_S A s.heap H locs → decode b_G_ruleOfLeastWay pc = .ok (.ireturn, 1) → W p l e (headSpec w_G_ruleOfLeastWay rm_G_ruleOfLeastWay).room s m ([.ref (ad 0), .int p0, .int p1] : List Value).toArray below meth c H locs 0 0 (MQ below (gW_Qi dC dI cI cZ ad A B E C O n F L V o) ([.ref (ad 0), .int p0, .int p1] : List Value).toArray s 0 0 A) (F0 m pc ls [.int o]) := fun pc H locs ls hP hD hS hd => W.iret (v := o) hx hb hr (fun t ht hW => ⟨⟨o, (), rfl, rfl, by rw [ht]; exact hP, va_K.moved hW.alike hK, hD⟩, hS.F ht⟩) hS.2.2 hd
  unfold f_G_ruleOfLeastWay at hf
  refine lv_iload_n hx hb d_G_ruleOfLeastWay_0 rfl (lv_at hl 1 rfl) ?_
  refine lv_istore_n (lv' := [(3, .int p0), (0, .ref (ad 0)), (1, .int p0), (2, .int p1)]) hx hb d_G_ruleOfLeastWay_1 rfl hl (by decide) rfl (fun ls hl => ?_)
  refine lv_iconst (v := (-1)) hx hb d_G_ruleOfLeastWay_2 (by decide) ?_
  refine lv_istore (lv' := [(4, .int (-1)), (3, .int p0), (0, .ref (ad 0)), (1, .int p0), (2, .int p1)]) hx hb d_G_ruleOfLeastWay_3 hl (by decide) rfl (fun ls hl => ?_)
  refine lv_iconst (v := 0) hx hb d_G_ruleOfLeastWay_5 (by decide) ?_
  refine lv_istore (lv' := [(5, .int 0), (4, .int (-1)), (3, .int p0), (0, .ref (ad 0)), (1, .int p0), (2, .int p1)]) hx hb d_G_ruleOfLeastWay_6 hl (by decide) rfl (fun ls hl => ?_)
  exact w_G_ruleOfLeastWay_8 hx hb hml hown hts hK hA p1 B E C O n F L V fu p0 (-1) 0 _ hf _ _ _ hP hD hS (lv_sub hl [3, 5, 2, 1, 0] rfl) hE
set_option maxHeartbeats 4000000 in
set_option maxRecDepth 100000 in
theorem w_G_pushAlong_9 {p : Program} {l : Launch} {e : Env} {s : State} {m : MethodId} {args : Array Value} {below : List Frame} {meth : Method} {c : Code} {Q : State → Prop} {A : Nat → Prop} {dC : Nat → ClassId} {dI : Nat → Nat → Nat} {cI cZ : ClassId} {ad : Nat → Nat} (hx : p.tables.exec = Jvm.exec) (hb : c.code = b_G_pushAlong) (hml : c.maxLocals = 6) (hown : s.vm.findClass R_G = some m.cls) (hts : ∀ w ∈ gw, w.before args s = true) (hK : va_K (dC, dI) classes (gT cI cZ) s) (hA : ∀ q : Nat, s.heap.size ≤ q → A q) (x1 : Int32) (x2 : Int32) (B : fg_A) (E : fg_A) (C : fg_A) (O : fg_A) (n : Int32) (F : fg_A) (L : fg_A) (V : fg_A) :
    ∀ (k : Nat) (x3 : Int32) (x4 : Int32) (x5 : Int32) (o : Int32), f_G_pushAlong_9 B E C L V x1 x2 k x3 x4 x5 = some o → ∀ (H : Heap) (locs : List Loc) (ls : Array Slot), va_P (dC, dI) classes (gW cI cZ ad B E C O n F L V) H → va_D A (gW cI cZ ad B E C O n F L V) → va_S A s.heap H locs → lv_has ls 6 [(0, .ref (ad 0)), (1, .int x1), (2, .int x2), (3, .int x3), (4, .int x4), (5, .int x5)] →
    (∀ (H : Heap) (locs : List Loc) (ls : Array Slot), va_P (dC, dI) classes (gW cI cZ ad B E C O n F L V) H → va_D A (gW cI cZ ad B E C O n F L V) → va_S A s.heap H locs → lv_has ls 6 [(0, .ref (ad 0)), (1, .int x1), (2, .int x2), (3, .int o)] → W p l e (headSpec w_G_pushAlong rm_G_pushAlong).room s m args below meth c H locs 0 0 Q (F0 m 47 ls [])) → W p l e (headSpec w_G_pushAlong rm_G_pushAlong).room s m args below meth c H locs 0 0 Q (F0 m 9 ls []) := by
  intro k
  induction k with
  | zero =>
    intro x3 x4 x5 o hf
    exact absurd (show none = some o from hf) (by simp)
  | succ k ih =>
    intro x3 x4 x5 o hf H locs ls hP hD hS hl hk
    rw [f_G_pushAlong_9] at hf
    refine lv_iload hx hb d_G_pushAlong_9 (lv_at hl 5 rfl) ?_
    refine lv_bipush (v := 28) hx hb d_G_pushAlong_11 (by decide) ?_
    refine lv_icmp_ge (tgt := 47) hx hb d_G_pushAlong_13 (by decide) (fun hc => ?_) (fun hc => ?_)
    · rw [if_pos hc] at hf
      cases hf
      exact hk _ _ _ hP hD hS (lv_sub hl [0, 1, 2, 3] rfl)
    · rw [if_neg hc] at hf
      refine lv_iload hx hb d_G_pushAlong_16 (lv_at hl 4 rfl) ?_
      refine lv_iload_n hx hb d_G_pushAlong_18 rfl (lv_at hl 1 rfl) ?_
      refine lv_icmp_eq (tgt := 47) hx hb d_G_pushAlong_19 (by decide) (fun hc => ?_) (fun hc => ?_)
      · rw [if_pos hc] at hf
        cases hf
        exact hk _ _ _ hP hD hS (lv_sub hl [0, 1, 2, 3] rfl)
      · rw [if_neg hc] at hf
        refine lv_iload_n hx hb d_G_pushAlong_22 rfl (lv_at hl 3 rfl) ?_
        refine lv_aload_n hx hb d_G_pushAlong_23 rfl (lv_at hl 0 rfl) ?_
        refine lv_iload hx hb d_G_pushAlong_24 (lv_at hl 4 rfl) ?_
        obtain ⟨o1, hco1, hf⟩ := fg_ob_some hf
        refine fgG_i (va_runV (As := [.int x4]) (rest := [.int x3]) ⟨hx, hb, hml, hown, hts⟩ (c_G_roomInto l dC dI cI cZ ad _ B E C O n F L V x4 o1 hco1) (cwV 1 hts gv_G_116 rfl rfl rfl (by decide +kernel) ⟨Nat.le_of_ble_eq_true rfl, Nat.le_of_ble_eq_true rfl⟩) (gW_pre hK hP hD) rfl rfl hl.1 rfl (lv_room (Nat.le_of_ble_eq_true rfl)) d_G_pushAlong_26 ⟨Nat.le_of_ble_eq_true rfl, Nat.le_of_ble_eq_true rfl⟩) hP hD hS hA (fun H locs hP hD hS => ?_)
        refine va_mmin hx hb (hml.trans hl.1.symm) hown (hts _ ml_G_119) (hts _ st_min) (hts _ in_Math) (hts _ cd_min) (Nat.le_of_ble_eq_true rfl) (Nat.le_of_ble_eq_true rfl) (Nat.le_refl _) (Nat.le_refl _) d_G_pushAlong_29 ?_
        refine lv_istore_n (lv' := [(3, .int (if o1 < x3 then o1 else x3)), (0, .ref (ad 0)), (1, .int x1), (2, .int x2), (4, .int x4), (5, .int x5)]) hx hb d_G_pushAlong_32 rfl hl (by decide) rfl (fun ls hl => ?_)
        refine lv_aload_n hx hb d_G_pushAlong_33 rfl (lv_at hl 1 rfl) ?_
        refine lv_iload hx hb d_G_pushAlong_34 (lv_at hl 4 rfl) ?_
        obtain ⟨o2, hco2, hf⟩ := fg_ob_some hf
        refine fgG_i (va_runV (As := [.int x4]) (rest := []) ⟨hx, hb, hml, hown, hts⟩ (c_G_nodeBefore l dC dI cI cZ ad _ B E C O n F L V x4 o2 hco2) (cwV 1 hts gv_G_124 rfl rfl rfl (by decide +kernel) ⟨Nat.le_of_ble_eq_true rfl, Nat.le_of_ble_eq_true rfl⟩) (gW_pre hK hP hD) rfl rfl hl.1 rfl (lv_room (Nat.le_of_ble_eq_true rfl)) d_G_pushAlong_36 ⟨Nat.le_of_ble_eq_true rfl, Nat.le_of_ble_eq_true rfl⟩) hP hD hS hA (fun H locs hP hD hS => ?_)
        refine lv_istore (lv' := [(4, .int o2), (3, .int (if o1 < x3 then o1 else x3)), (0, .ref (ad 0)), (1, .int x1), (2, .int x2), (5, .int x5)]) hx hb d_G_pushAlong_39 hl (by decide) rfl (fun ls hl => ?_)
        refine lv_iinc (v := x5 + 1) (lv' := [(5, .int (x5 + 1)), (4, .int o2), (3, .int (if o1 < x3 then o1 else x3)), (0, .ref (ad 0)), (1, .int x1), (2, .int x2)]) hx hb d_G_pushAlong_41 hl (k := 5) rfl rfl (by decide) rfl (fun ls hl => ?_)
        refine lv_goto (tgt := 9) hx hb d_G_pushAlong_44 (by decide) ?_
        exact ih (if o1 < x3 then o1 else x3) o2 (x5 + 1) _ hf _ _ _ hP hD hS (lv_sub hl [3, 4, 5, 2, 1, 0] rfl) hk
set_option maxHeartbeats 4000000 in
set_option maxRecDepth 100000 in
theorem w_G_pushAlong_53 {p : Program} {l : Launch} {e : Env} {s : State} {m : MethodId} {args : Array Value} {below : List Frame} {meth : Method} {c : Code} {Q : State → Prop} {A : Nat → Prop} {dC : Nat → ClassId} {dI : Nat → Nat → Nat} {cI cZ : ClassId} {ad : Nat → Nat} (hx : p.tables.exec = Jvm.exec) (hb : c.code = b_G_pushAlong) (hml : c.maxLocals = 6) (hown : s.vm.findClass R_G = some m.cls) (hts : ∀ w ∈ gw, w.before args s = true) (hK : va_K (dC, dI) classes (gT cI cZ) s) (hA : ∀ q : Nat, s.heap.size ≤ q → A q) (x1 : Int32) (x3 : Int32) (B : fg_A) (E : fg_A) (C : fg_A) (O : fg_A) (n : Int32) (F : fg_A) (V : fg_A) :
    ∀ (k : Nat) (x4 : Int32) (x5 : Int32) (L : fg_A) (o : fg_A), f_G_pushAlong_53 B E V x1 x3 k x4 x5 L = some o → ∀ (H : Heap) (locs : List Loc) (ls : Array Slot), va_P (dC, dI) classes (gW cI cZ ad B E C O n F L V) H → va_D A (gW cI cZ ad B E C O n F L V) → va_S A s.heap H locs → lv_has ls 6 [(0, .ref (ad 0)), (1, .int x1), (3, .int x3), (4, .int x4), (5, .int x5)] →
    (∀ (H : Heap) (locs : List Loc) (ls : Array Slot), va_P (dC, dI) classes (gW cI cZ ad B E C O n F o V) H → va_D A (gW cI cZ ad B E C O n F o V) → va_S A s.heap H locs → lv_has ls 6 [] → W p l e (headSpec w_G_pushAlong rm_G_pushAlong).room s m args below meth c H locs 0 0 Q (F0 m 87 ls [])) → W p l e (headSpec w_G_pushAlong rm_G_pushAlong).room s m args below meth c H locs 0 0 Q (F0 m 53 ls []) := by
  intro k
  induction k with
  | zero =>
    intro x4 x5 L o hf
    exact absurd (show none = some o from hf) (by simp)
  | succ k ih =>
    intro x4 x5 L o hf H locs ls hP hD hS hl hk
    rw [f_G_pushAlong_53] at hf
    refine lv_iload hx hb d_G_pushAlong_53 (lv_at hl 4 rfl) ?_
    refine lv_bipush (v := 28) hx hb d_G_pushAlong_55 (by decide) ?_
    refine lv_icmp_ge (tgt := 87) hx hb d_G_pushAlong_57 (by decide) (fun hc => ?_) (fun hc => ?_)
    · rw [if_pos hc] at hf
      cases hf
      exact hk _ _ _ hP hD hS (lv_sub hl [] rfl)
    · rw [if_neg hc] at hf
      refine lv_iload hx hb d_G_pushAlong_60 (lv_at hl 3 rfl) ?_
      refine lv_iload_n hx hb d_G_pushAlong_62 rfl (lv_at hl 1 rfl) ?_
      refine lv_icmp_eq (tgt := 87) hx hb d_G_pushAlong_63 (by decide) (fun hc => ?_) (fun hc => ?_)
      · rw [if_pos hc] at hf
        cases hf
        exact hk _ _ _ hP hD hS (lv_sub hl [] rfl)
      · rw [if_neg hc] at hf
        refine lv_aload_n hx hb d_G_pushAlong_66 rfl (lv_at hl 0 rfl) ?_
        refine lv_iload hx hb d_G_pushAlong_67 (lv_at hl 3 rfl) ?_
        refine lv_iload_n hx hb d_G_pushAlong_69 rfl (lv_at hl 2 rfl) ?_
        obtain ⟨o1, hco1, hf⟩ := fg_ob_some hf
        refine fgG_v (va_runV (As := [.int x4, .int x3]) (rest := []) ⟨hx, hb, hml, hown, hts⟩ (c_G_pushInto l dC dI cI cZ ad _ B E C O n F L V x4 x3 o1 hco1) (cwV 2 hts gv_G_127 rfl rfl rfl (by decide +kernel) ⟨Nat.le_of_ble_eq_true rfl, Nat.le_of_ble_eq_true rfl⟩) (gW_pre hK hP hD) rfl rfl hl.1 rfl (lv_room (Nat.le_of_ble_eq_true rfl)) d_G_pushAlong_70 ⟨Nat.le_of_ble_eq_true rfl, Nat.le_of_ble_eq_true rfl⟩) hP hD hS hA (fun H locs hP hD hS => ?_)
        refine lv_aload_n hx hb d_G_pushAlong_73 rfl (lv_at hl 0 rfl) ?_
        refine lv_iload hx hb d_G_pushAlong_74 (lv_at hl 3 rfl) ?_
        obtain ⟨o2, hco2, hf⟩ := fg_ob_some hf
        refine fgG_i (va_runV (As := [.int x4]) (rest := []) ⟨hx, hb, hml, hown, hts⟩ (c_G_nodeBefore l dC dI cI cZ ad _ B E C O n F o1 V x4 o2 hco2) (cwV 1 hts gv_G_124 rfl rfl rfl (by decide +kernel) ⟨Nat.le_of_ble_eq_true rfl, Nat.le_of_ble_eq_true rfl⟩) (gW_pre hK hP hD) rfl rfl hl.1 rfl (lv_room (Nat.le_of_ble_eq_true rfl)) d_G_pushAlong_76 ⟨Nat.le_of_ble_eq_true rfl, Nat.le_of_ble_eq_true rfl⟩) hP hD hS hA (fun H locs hP hD hS => ?_)
        refine lv_istore (lv' := [(4, .int o2), (0, .ref (ad 0)), (1, .int x1), (3, .int x3), (5, .int x5)]) hx hb d_G_pushAlong_79 hl (by decide) rfl (fun ls hl => ?_)
        refine lv_iinc (v := x5 + 1) (lv' := [(5, .int (x5 + 1)), (4, .int o2), (0, .ref (ad 0)), (1, .int x1), (3, .int x3)]) hx hb d_G_pushAlong_81 hl (k := 4) rfl rfl (by decide) rfl (fun ls hl => ?_)
        refine lv_goto (tgt := 53) hx hb d_G_pushAlong_84 (by decide) ?_
        exact ih o2 (x5 + 1) o1 _ hf _ _ _ hP hD hS (lv_sub hl [2, 3, 4, 1, 0] rfl) hk
set_option maxHeartbeats 4000000 in
set_option maxRecDepth 100000 in
theorem c_G_pushAlong (l : Launch) (dC : Nat → ClassId) (dI : Nat → Nat → Nat) (cI cZ : ClassId) (ad : Nat → Nat) (sz : Nat) (B : fg_A) (E : fg_A) (C : fg_A) (O : fg_A) (n : Int32) (F : fg_A) (L : fg_A) (V : fg_A) (p0 : Int32) (p1 : Int32) (o : fg_A) (hf : f_G_pushAlong B E C L V p0 p1 = some o) : Met l y_G_pushAlong w_G_pushAlong rm_G_pushAlong (gW_Pc dC dI cI cZ ad sz B E C O n F L V [.ref (ad 0), .int p0, .int p1]) (gW_Qv dC dI cI cZ ad (va_A (gW cI cZ ad B E C O n F L V) sz) B E C O n F o V) 0 0 (va_A (gW cI cZ ad B E C O n F L V) sz) := by
  refine Met.ofW (cc := b_G_pushAlong) (maxL := 6) (ret := none) (by decide) rfl ?_
  intro p e s m args below meth c s₁ Bd hml hv
  obtain ⟨rfl, hsz, hP, hK, hD0⟩ := hv
  have hx := Bd.exec
  have hb := Bd.bytes
  have hr := Bd.returns
  have hts := fun w h => atoms_spec (ws := w_G_pushAlong) Bd.pre w (List.mem_cons_of_mem _ h)
  have hown : s.vm.findClass R_G = some m.cls := findClass_of_methodNamed Bd.named
  have hlocks := Bd.notSynchronized
  subst hsz
  have hD := hD0.self (sz := s.heap.size)
  generalize hAe : va_A (gW cI cZ ad B E C O n F L V) s.heap.size = A at hD ⊢
  have hA : ∀ q : Nat, s.heap.size ≤ q → A q := fun q h => by rw [← hAe]; exact Or.inr h
  have hS : va_S A s.heap s.heap [] := va_S.rf
  have hl := lv_entry ([.ref (ad 0), .int p0, .int p1]) (n := 6) (Nat.le_of_ble_eq_true rfl)
  rw [lg_entry_eq]
  generalize (lg_sl ([.ref (ad 0), .int p0, .int p1]) ++ List.replicate (6 - (lg_sl ([.ref (ad 0), .int p0, .int p1])).length) Slot.unset).toArray = ls at hl ⊢
  have hl : lv_has ls 6 [(0, .ref (ad 0)), (1, .int p0), (2, .int p1)] := hl
  have hE : ∀ (pc : Nat) (H : Heap) (locs : List Loc) (ls : Array Slot), va_P (dC, dI) classes (gW cI cZ ad B E C O n F o V) H → va_D A (gW cI cZ ad B E C O n F o V) → va_S A s.heap H locs → decode b_G_pushAlong pc = .ok (.return_, 1) → W p l e (headSpec w_G_pushAlong rm_G_pushAlong).room s m ([.ref (ad 0), .int p0, .int p1] : List Value).toArray below meth c H locs 0 0 (MQ below (gW_Qv dC dI cI cZ ad A B E C O n F o V) ([.ref (ad 0), .int p0, .int p1] : List Value).toArray s 0 0 A) (F0 m pc ls []) := fun pc H locs ls hP hD hS hd => W.vret hx hb hr (fun t ht hW => ⟨⟨(), rfl, trivial, by rw [ht]; exact hP, va_K.moved hW.alike hK, hD⟩, hS.F ht⟩) hS.2.2 hd
  unfold f_G_pushAlong at hf
  refine lv_bipush (v := 9) hx hb d_G_pushAlong_0 (by decide) ?_
  refine lv_istore_n (lv' := [(3, .int 9), (0, .ref (ad 0)), (1, .int p0), (2, .int p1)]) hx hb d_G_pushAlong_2 rfl hl (by decide) rfl (fun ls hl => ?_)
  refine lv_iload_n hx hb d_G_pushAlong_3 rfl (lv_at hl 3 rfl) ?_
  refine lv_istore (lv' := [(4, .int p1), (3, .int 9), (0, .ref (ad 0)), (1, .int p0), (2, .int p1)]) hx hb d_G_pushAlong_4 hl (by decide) rfl (fun ls hl => ?_)
  refine lv_iconst (v := 0) hx hb d_G_pushAlong_6 (by decide) ?_
  refine lv_istore (lv' := [(5, .int 0), (4, .int p1), (3, .int 9), (0, .ref (ad 0)), (1, .int p0), (2, .int p1)]) hx hb d_G_pushAlong_7 hl (by decide) rfl (fun ls hl => ?_)
  obtain ⟨o1, hco1, hf⟩ := fg_ob_some hf
  refine w_G_pushAlong_9 hx hb hml hown hts hK hA p0 p1 B E C O n F L V fu 9 p1 0 o1 hco1 _ _ _ hP hD hS (lv_sub hl [3, 4, 5, 2, 1, 0] rfl) (fun H locs ls hP hD hS hl => ?_)
  refine lv_iload_n hx hb d_G_pushAlong_47 rfl (lv_at hl 2 rfl) ?_
  refine lv_istore (lv' := [(4, .int p1), (0, .ref (ad 0)), (1, .int p0), (2, .int p1), (3, .int o1)]) hx hb d_G_pushAlong_48 hl (by decide) rfl (fun ls hl => ?_)
  refine lv_iconst (v := 0) hx hb d_G_pushAlong_50 (by decide) ?_
  refine lv_istore (lv' := [(5, .int 0), (4, .int p1), (0, .ref (ad 0)), (1, .int p0), (2, .int p1), (3, .int o1)]) hx hb d_G_pushAlong_51 hl (by decide) rfl (fun ls hl => ?_)
  obtain ⟨o2, hco2, hf⟩ := fg_ob_some hf
  refine w_G_pushAlong_53 hx hb hml hown hts hK hA p0 o1 B E C O n F V fu p1 0 L o2 hco2 _ _ _ hP hD hS (lv_sub hl [2, 3, 5, 1, 0] rfl) (fun H locs ls hP hD hS hl => ?_)
  cases hf
  exact hE _ _ _ _ hP hD hS d_G_pushAlong_87
