set_option maxHeartbeats 4000000 in
set_option maxRecDepth 100000 in
theorem c_G_pushInto (l : Launch) (dC : Nat → ClassId) (dI : Nat → Nat → Nat) (cI cZ : ClassId) (ad : Nat → Nat) (sz : Nat) (B : fg_A) (E : fg_A) (C : fg_A) (O : fg_A) (n : Int32) (F : fg_A) (L : fg_A) (V : fg_A) (p0 : Int32) (p1 : Int32) (o : fg_A) (hf : f_G_pushInto E L V p0 p1 = some o) : Met l y_G_pushInto w_G_pushInto rm_G_pushInto (gW_Pc dC dI cI cZ ad sz B E C O n F L V [.ref (ad 0), .int p0, .int p1]) (gW_Qv dC dI cI cZ ad (va_A (gW cI cZ ad B E C O n F L V) sz) B E C O n F o V) 0 0 (va_A (gW cI cZ ad B E C O n F L V) sz) := by
  refine Met.ofW (cc := b_G_pushInto) (maxL := 4) (ret := none) (by decide) rfl ?_
  intro p e s m args below meth c s₁ Bd hml hv
  obtain ⟨rfl, hsz, hP, hK, hD0⟩ := hv
  have hx := Bd.exec
  have hb := Bd.bytes
  have hr := Bd.returns
  have hts := fun w h => atoms_spec (ws := w_G_pushInto) Bd.pre w (List.mem_cons_of_mem _ h)
  have hown : s.vm.findClass R_G = some m.cls := findClass_of_methodNamed Bd.named
  have hlocks := Bd.notSynchronized
  subst hsz
  have hD := hD0.self (sz := s.heap.size)
  generalize hAe : va_A (gW cI cZ ad B E C O n F L V) s.heap.size = A at hD ⊢
  have hA : ∀ q : Nat, s.heap.size ≤ q → A q := fun q h => by rw [← hAe]; exact Or.inr h
  have hS : va_S A s.heap s.heap [] := va_S.rf
  have hl := lv_entry ([.ref (ad 0), .int p0, .int p1]) (n := 4) (Nat.le_of_ble_eq_true rfl)
  rw [lg_entry_eq]
  generalize (lg_sl ([.ref (ad 0), .int p0, .int p1]) ++ List.replicate (4 - (lg_sl ([.ref (ad 0), .int p0, .int p1])).length) Slot.unset).toArray = ls at hl ⊢
  have hl : lv_has ls 4 [(0, .ref (ad 0)), (1, .int p0), (2, .int p1)] := hl
  have hE : ∀ (pc : Nat) (H : Heap) (locs : List Loc) (ls : Array Slot), va_P (dC, dI) classes (gW cI cZ ad B E C O n F o V) H → va_D A (gW cI cZ ad B E C O n F o V) → va_S A s.heap H locs → decode b_G_pushInto pc = .ok (.return_, 1) → W p l e (headSpec w_G_pushInto rm_G_pushInto).room s m ([.ref (ad 0), .int p0, .int p1] : List Value).toArray below meth c H locs 0 0 (MQ below (gW_Qv dC dI cI cZ ad A B E C O n F o V) ([.ref (ad 0), .int p0, .int p1] : List Value).toArray s 0 0 A) (F0 m pc ls []) := fun pc H locs ls hP hD hS hd => W.vret hx hb hr (fun t ht hW => ⟨⟨(), rfl, trivial, by rw [ht]; exact hP, va_K.moved hW.alike hK, hD⟩, hS.F ht⟩) hS.2.2 hd
  unfold f_G_pushInto at hf
  refine lv_aload_n hx hb d_G_pushInto_0 rfl (lv_at hl 0 rfl) ?_
  refine va_get (D := (dC, dI)) (ci := 0) (v := .ref (ad 7)) (C := R_G) (T := F_G) (N := 8) hx hb hts i_G hown hK hP 0 rfl rfl 7 (by decide) (hts _ fl_G_33) (fun _ h9 => h9) rfl d_G_pushInto_1 ?_
  refine lv_iload_n hx hb d_G_pushInto_4 rfl (lv_at hl 1 rfl) ?_
  obtain ⟨hi, hf⟩ := fg_og_some hf
  refine va_iald hx hb hK hP 7 0 rfl rfl (ix_in hi) d_G_pushInto_5 ?_
  refine lv_istore_n (lv' := [(3, .int (V p0.toNatClampNeg)), (0, .ref (ad 0)), (1, .int p0), (2, .int p1)]) hx hb d_G_pushInto_6 rfl hl (by decide) rfl (fun ls hl => ?_)
  refine lv_aload_n hx hb d_G_pushInto_7 rfl (lv_at hl 1 rfl) ?_
  refine va_get (D := (dC, dI)) (ci := 0) (v := .ref (ad 6)) (C := R_G) (T := F_G) (N := 8) hx hb hts i_G hown hK hP 0 rfl rfl 6 (by decide) (hts _ fl_G_30) (fun _ h9 => h9) rfl d_G_pushInto_8 ?_
  refine lv_iload_n hx hb d_G_pushInto_11 rfl (lv_at hl 0 rfl) ?_
  refine lv_dup2_11 hx hb d_G_pushInto_12 rfl rfl ?_
  obtain ⟨hi, hf⟩ := fg_og_some hf
  refine va_iald hx hb hK hP 6 0 rfl rfl (ix_in hi) d_G_pushInto_13 ?_
  refine lv_aload_n hx hb d_G_pushInto_14 rfl (lv_at hl 1 rfl) ?_
  refine va_get (D := (dC, dI)) (ci := 0) (v := .ref (ad 2)) (C := R_G) (T := F_G) (N := 8) hx hb hts i_G hown hK hP 0 rfl rfl 1 (by decide) (hts _ fl_G_13) (fun _ h9 => h9) rfl d_G_pushInto_15 ?_
  refine lv_iload_n hx hb d_G_pushInto_18 rfl (lv_at hl 0 rfl) ?_
  obtain ⟨hi, hf⟩ := fg_og_some hf
  refine va_iald hx hb hK hP 2 0 rfl rfl (ix_in hi) d_G_pushInto_19 ?_
  refine lv_iload_n hx hb d_G_pushInto_20 rfl (lv_at hl 2 rfl) ?_
  refine lv_icmp_ne (tgt := 28) hx hb d_G_pushInto_21 (by decide) (fun hc => ?_) (fun hc => ?_)
  · rw [if_neg hc] at hf
    refine lv_iload_n hx hb d_G_pushInto_28 rfl (lv_at hl 3 rfl) ?_
    refine lv_ineg hx hb d_G_pushInto_29 ?_
    refine lv_iadd hx hb d_G_pushInto_30 ?_
    obtain ⟨hi, hf⟩ := fg_og_some hf
    refine va_iast hx hb hK hP hD hS 6 0 rfl rfl (ix_in hi) d_G_pushInto_31 (fun H locs hP hD hS => ?_)
    have hP : va_P (dC, dI) classes (gW cI cZ ad B E C O n F (upd L (V p0.toNatClampNeg).toNatClampNeg ((L (V p0.toNatClampNeg).toNatClampNeg) + (-p1))) V) H := hP
    have hD : va_D A (gW cI cZ ad B E C O n F (upd L (V p0.toNatClampNeg).toNatClampNeg ((L (V p0.toNatClampNeg).toNatClampNeg) + (-p1))) V) := hD
    cases hf
    exact hE _ _ _ _ hP hD hS d_G_pushInto_32
  · rw [if_pos hc] at hf
    refine lv_iload_n hx hb d_G_pushInto_24 rfl (lv_at hl 3 rfl) ?_
    refine lv_goto (tgt := 30) hx hb d_G_pushInto_25 (by decide) ?_
    refine lv_iadd hx hb d_G_pushInto_30 ?_
    obtain ⟨hi, hf⟩ := fg_og_some hf
    refine va_iast hx hb hK hP hD hS 6 0 rfl rfl (ix_in hi) d_G_pushInto_31 (fun H locs hP hD hS => ?_)
    have hP : va_P (dC, dI) classes (gW cI cZ ad B E C O n F (upd L (V p0.toNatClampNeg).toNatClampNeg ((L (V p0.toNatClampNeg).toNatClampNeg) + p1)) V) H := hP
    have hD : va_D A (gW cI cZ ad B E C O n F (upd L (V p0.toNatClampNeg).toNatClampNeg ((L (V p0.toNatClampNeg).toNatClampNeg) + p1)) V) := hD
    cases hf
    exact hE _ _ _ _ hP hD hS d_G_pushInto_32
set_option maxHeartbeats 4000000 in
set_option maxRecDepth 100000 in
theorem c_G_needNodes (l : Launch) (p0 : Int32) (p1 : Int32) {o : Unit} (hf : f_G_needNodes p0 p1 = some o) : Met l y_G_needNodes w_G_needNodes rm_G_needNodes (fun v _ => v = ([.int p0, .int p1] : List Value).toArray) (fg_Qv0) 0 0 (fun _ => False) := by
  refine Met.ofW (cc := b_G_needNodes) (maxL := 2) (ret := none) (by decide) rfl ?_
  intro p e s m args below meth c s₁ Bd hml hv
  obtain rfl := hv
  have hx := Bd.exec
  have hb := Bd.bytes
  have hr := Bd.returns
  have hts := fun w h => atoms_spec (ws := w_G_needNodes) Bd.pre w (List.mem_cons_of_mem _ h)
  have hown : s.vm.findClass R_G = some m.cls := findClass_of_methodNamed Bd.named
  have hlocks := Bd.notSynchronized
  have hl := lv_entry ([.int p0, .int p1]) (n := 2) (Nat.le_of_ble_eq_true rfl)
  rw [lg_entry_eq]
  generalize (lg_sl ([.int p0, .int p1]) ++ List.replicate (2 - (lg_sl ([.int p0, .int p1])).length) Slot.unset).toArray = ls at hl ⊢
  have hl : lv_has ls 2 [(0, .int p0), (1, .int p1)] := hl
  unfold f_G_needNodes at hf
  refine lv_iload_n hx hb d_G_needNodes_0 rfl (lv_at hl 0 rfl) ?_
  obtain ⟨o1, hco1, hf⟩ := fg_ob_some hf
  refine fg_v0 (W.runS (As := [.int p0]) (rest := []) ⟨hx, hb, hml, hown, hts⟩ (c_G_needNode l p0 hco1) (cwS 1 hts gs_G_82 rfl rfl rfl (by decide +kernel) ⟨Nat.le_of_ble_eq_true rfl, Nat.le_of_ble_eq_true rfl⟩) preEq rfl rfl hl.1 rfl (lv_room (Nat.le_of_ble_eq_true rfl)) d_G_needNodes_1 ⟨Nat.le_of_ble_eq_true rfl, Nat.le_of_ble_eq_true rfl⟩) ?_
  refine lv_iload_n hx hb d_G_needNodes_4 rfl (lv_at hl 1 rfl) ?_
  obtain ⟨o2, hco2, hf⟩ := fg_ob_some hf
  refine fg_v0 (W.runS (As := [.int p1]) (rest := []) ⟨hx, hb, hml, hown, hts⟩ (c_G_needNode l p1 hco2) (cwS 1 hts gs_G_82 rfl rfl rfl (by decide +kernel) ⟨Nat.le_of_ble_eq_true rfl, Nat.le_of_ble_eq_true rfl⟩) preEq rfl rfl hl.1 rfl (lv_room (Nat.le_of_ble_eq_true rfl)) d_G_needNodes_5 ⟨Nat.le_of_ble_eq_true rfl, Nat.le_of_ble_eq_true rfl⟩) ?_
  exact W.vret hx hb hr (fun t ht hW => ⟨rfl, ht⟩) (fun q h => by cases h) d_G_needNodes_8
set_option maxHeartbeats 4000000 in
set_option maxRecDepth 100000 in
theorem c_G_has (l : Launch) (p0 : Int32) (p1 : Int32) (o : Int32) (hf : f_G_has p0 p1 = some o) : Met l y_G_has w_G_has rm_G_has (fun v _ => v = ([.int p0, .int p1] : List Value).toArray) (QcRead o) 0 0 (fun _ => False) := by
  refine Met.ofW (cc := b_G_has) (maxL := 2) (ret := (some .boolean)) (by decide) rfl ?_
  intro p e s m args below meth c s₁ Bd hml hv
  obtain rfl := hv
  have hx := Bd.exec
  have hb := Bd.bytes
  have hr := Bd.returns
  have hts := fun w h => atoms_spec (ws := w_G_has) Bd.pre w (List.mem_cons_of_mem _ h)
  have hown : s.vm.findClass R_G = some m.cls := findClass_of_methodNamed Bd.named
  have hlocks := Bd.notSynchronized
  have hl := lv_entry ([.int p0, .int p1]) (n := 2) (Nat.le_of_ble_eq_true rfl)
  rw [lg_entry_eq]
  generalize (lg_sl ([.int p0, .int p1]) ++ List.replicate (2 - (lg_sl ([.int p0, .int p1])).length) Slot.unset).toArray = ls at hl ⊢
  have hl : lv_has ls 2 [(0, .int p0), (1, .int p1)] := hl
  unfold f_G_has at hf
  refine lv_iload_n hx hb d_G_has_0 rfl (lv_at hl 0 rfl) ?_
  refine lv_iload_n hx hb d_G_has_1 rfl (lv_at hl 1 rfl) ?_
  obtain ⟨o1, hco1, hf⟩ := fg_ob_some hf
  refine fg_r0 (W.runS (As := [.int p1]) (rest := [.int p0]) ⟨hx, hb, hml, hown, hts⟩ (c_G_bit l p1 o1 hco1) (cwS 1 hts gs_G_78 rfl rfl rfl (by decide +kernel) ⟨Nat.le_of_ble_eq_true rfl, Nat.le_of_ble_eq_true rfl⟩) preEq rfl rfl hl.1 rfl (lv_room (Nat.le_of_ble_eq_true rfl)) d_G_has_2 ⟨Nat.le_of_ble_eq_true rfl, Nat.le_of_ble_eq_true rfl⟩) ?_
  refine lv_iand hx hb d_G_has_5 ?_
  refine lv_if_eq (tgt := 13) hx hb d_G_has_6 (by decide) (fun hc => ?_) (fun hc => ?_)
  · rw [if_pos hc] at hf
    refine lv_iconst (v := 0) hx hb d_G_has_13 (by decide) ?_
    cases hf
    exact W.zret hx hb hr (by decide) (fun t ht hW => ⟨rfl, ht⟩) (fun q h => by cases h) d_G_has_14
  · rw [if_neg hc] at hf
    refine lv_iconst (v := 1) hx hb d_G_has_9 (by decide) ?_
    refine lv_goto (tgt := 14) hx hb d_G_has_10 (by decide) ?_
    cases hf
    exact W.zret hx hb hr (by decide) (fun t ht hW => ⟨rfl, ht⟩) (fun q h => by cases h) d_G_has_14
set_option maxHeartbeats 4000000 in
set_option maxRecDepth 100000 in
theorem w_G_measureWaysTo_2 {p : Program} {l : Launch} {e : Env} {s : State} {m : MethodId} {args : Array Value} {below : List Frame} {meth : Method} {c : Code} {Q : State → Prop} {A : Nat → Prop} {dC : Nat → ClassId} {dI : Nat → Nat → Nat} {cI cZ : ClassId} {ad : Nat → Nat} (hx : p.tables.exec = Jvm.exec) (hb : c.code = b_G_measureWaysTo) (hml : c.maxLocals = 4) (hown : s.vm.findClass R_G = some m.cls) (hts : ∀ w ∈ gw, w.before args s = true) (hK : va_K (dC, dI) classes (gT cI cZ) s) (hA : ∀ q : Nat, s.heap.size ≤ q → A q) (x1 : Int32) (B : fg_A) (E : fg_A) (C : fg_A) (O : fg_A) (n : Int32) (L : fg_A) (V : fg_A) :
    ∀ (k : Nat) (x2 : Int32) (F : fg_A) (o : fg_A), f_G_measureWaysTo_2 x1 k x2 F = some o → ∀ (H : Heap) (locs : List Loc) (ls : Array Slot), va_P (dC, dI) classes (gW cI cZ ad B E C O n F L V) H → va_D A (gW cI cZ ad B E C O n F L V) → va_S A s.heap H locs → lv_has ls 4 [(0, .ref (ad 0)), (1, .int x1), (2, .int x2)] →
    (∀ (H : Heap) (locs : List Loc) (ls : Array Slot), va_P (dC, dI) classes (gW cI cZ ad B E C O n o L V) H → va_D A (gW cI cZ ad B E C O n o L V) → va_S A s.heap H locs → lv_has ls 4 [(0, .ref (ad 0)), (1, .int x1)] → W p l e (headSpec w_G_measureWaysTo rm_G_measureWaysTo).room s m args below meth c H locs 0 0 Q (F0 m 21 ls [])) → W p l e (headSpec w_G_measureWaysTo rm_G_measureWaysTo).room s m args below meth c H locs 0 0 Q (F0 m 2 ls []) := by
  intro k
  induction k with
  | zero =>
    intro x2 F o hf
    exact absurd (show none = some o from hf) (by simp)
  | succ k ih =>
    intro x2 F o hf H locs ls hP hD hS hl hk
    rw [f_G_measureWaysTo_2] at hf
    refine lv_iload_n hx hb d_G_measureWaysTo_2 rfl (lv_at hl 2 rfl) ?_
    refine lv_bipush (v := 28) hx hb d_G_measureWaysTo_3 (by decide) ?_
    refine lv_icmp_ge (tgt := 21) hx hb d_G_measureWaysTo_5 (by decide) (fun hc => ?_) (fun hc => ?_)
    · rw [if_pos hc] at hf
      cases hf
      exact hk _ _ _ hP hD hS (lv_sub hl [0, 1] rfl)
    · rw [if_neg hc] at hf
      refine lv_aload_n hx hb d_G_measureWaysTo_8 rfl (lv_at hl 0 rfl) ?_
      refine va_get (D := (dC, dI)) (ci := 0) (v := .ref (ad 5)) (C := R_G) (T := F_G) (N := 8) hx hb hts i_G hown hK hP 0 rfl rfl 5 (by decide) (hts _ fl_G_27) (fun _ h9 => h9) rfl d_G_measureWaysTo_9 ?_
      refine lv_iload_n hx hb d_G_measureWaysTo_12 rfl (lv_at hl 2 rfl) ?_
      refine lv_iconst (v := (-1)) hx hb d_G_measureWaysTo_13 (by decide) ?_
      obtain ⟨hi, hf⟩ := fg_og_some hf
      refine va_iast hx hb hK hP hD hS 5 0 rfl rfl (ix_in hi) d_G_measureWaysTo_14 (fun H locs hP hD hS => ?_)
      have hP : va_P (dC, dI) classes (gW cI cZ ad B E C O n (upd F x2.toNatClampNeg (-1)) L V) H := hP
      have hD : va_D A (gW cI cZ ad B E C O n (upd F x2.toNatClampNeg (-1)) L V) := hD
      refine lv_iinc (v := x2 + 1) (lv' := [(2, .int (x2 + 1)), (0, .ref (ad 0)), (1, .int x1)]) hx hb d_G_measureWaysTo_15 hl (k := 2) rfl rfl (by decide) rfl (fun ls hl => ?_)
      refine lv_goto (tgt := 2) hx hb d_G_measureWaysTo_18 (by decide) ?_
      exact ih (x2 + 1) (upd F x2.toNatClampNeg (-1)) _ hf _ _ _ hP hD hS (lv_sub hl [1, 2, 0] rfl) hk
set_option maxHeartbeats 4000000 in
set_option maxRecDepth 100000 in
theorem w_G_measureWaysTo_32 {p : Program} {l : Launch} {e : Env} {s : State} {m : MethodId} {args : Array Value} {below : List Frame} {meth : Method} {c : Code} {Q : State → Prop} {A : Nat → Prop} {dC : Nat → ClassId} {dI : Nat → Nat → Nat} {cI cZ : ClassId} {ad : Nat → Nat} (hx : p.tables.exec = Jvm.exec) (hb : c.code = b_G_measureWaysTo) (hml : c.maxLocals = 4) (hown : s.vm.findClass R_G = some m.cls) (hts : ∀ w ∈ gw, w.before args s = true) (hK : va_K (dC, dI) classes (gT cI cZ) s) (hA : ∀ q : Nat, s.heap.size ≤ q → A q) (B : fg_A) (E : fg_A) (C : fg_A) (O : fg_A) (n : Int32) (L : fg_A) (V : fg_A) :
    ∀ (k : Nat) (x2 : Int32) (x3 : Int32) (F : fg_A) (o : fg_A), f_G_measureWaysTo_32 B E O n k x2 x3 F = some o → ∀ (H : Heap) (locs : List Loc) (ls : Array Slot), va_P (dC, dI) classes (gW cI cZ ad B E C O n F L V) H → va_D A (gW cI cZ ad B E C O n F L V) → va_S A s.heap H locs → lv_has ls 4 [(0, .ref (ad 0)), (2, .int x2), (3, .int x3)] →
    (∀ (H : Heap) (locs : List Loc) (ls : Array Slot), va_P (dC, dI) classes (gW cI cZ ad B E C O n o L V) H → va_D A (gW cI cZ ad B E C O n o L V) → va_S A s.heap H locs → lv_has ls 4 [] → W p l e (headSpec w_G_measureWaysTo rm_G_measureWaysTo).room s m args below meth c H locs 0 0 Q (F0 m 54 ls [])) → W p l e (headSpec w_G_measureWaysTo rm_G_measureWaysTo).room s m args below meth c H locs 0 0 Q (F0 m 32 ls []) := by
  intro k
  induction k with
  | zero =>
    intro x2 x3 F o hf
    exact absurd (show none = some o from hf) (by simp)
  | succ k ih =>
    intro x2 x3 F o hf H locs ls hP hD hS hl hk
    rw [f_G_measureWaysTo_32] at hf
    refine lv_iload_n hx hb d_G_measureWaysTo_32 rfl (lv_at hl 2 rfl) ?_
    refine lv_bipush (v := 28) hx hb d_G_measureWaysTo_33 (by decide) ?_
    refine lv_icmp_ge (tgt := 54) hx hb d_G_measureWaysTo_35 (by decide) (fun hc => ?_) (fun hc => ?_)
    · rw [if_pos hc] at hf
      cases hf
      exact hk _ _ _ hP hD hS (lv_sub hl [] rfl)
    · rw [if_neg hc] at hf
      refine lv_iload_n hx hb d_G_measureWaysTo_38 rfl (lv_at hl 1 rfl) ?_
      refine lv_if_eq (tgt := 54) hx hb d_G_measureWaysTo_39 (by decide) (fun hc => ?_) (fun hc => ?_)
      · rw [if_pos hc] at hf
        cases hf
        exact hk _ _ _ hP hD hS (lv_sub hl [] rfl)
      · rw [if_neg hc] at hf
        refine lv_aload_n hx hb d_G_measureWaysTo_42 rfl (lv_at hl 0 rfl) ?_
        refine lv_iload_n hx hb d_G_measureWaysTo_43 rfl (lv_at hl 2 rfl) ?_
        obtain ⟨o1, hco1, hf⟩ := fg_ob_some hf
        refine fgG_i (va_runV (As := [.int x3]) (rest := []) ⟨hx, hb, hml, hown, hts⟩ (c_G_measureWaysOf l dC dI cI cZ ad _ B E C O n F L V x3 o1 hco1) (cwV 1 hts gv_G_100 rfl rfl rfl (by decide +kernel) ⟨Nat.le_of_ble_eq_true rfl, Nat.le_of_ble_eq_true rfl⟩) (gW_pre hK hP hD) rfl rfl hl.1 rfl (lv_room (Nat.le_of_ble_eq_true rfl)) d_G_measureWaysTo_44 ⟨Nat.le_of_ble_eq_true rfl, Nat.le_of_ble_eq_true rfl⟩) hP hD hS hA (fun H locs hP hD hS => ?_)
        refine lv_istore_n (lv' := [(2, .int o1.1), (0, .ref (ad 0)), (3, .int x3)]) hx hb d_G_measureWaysTo_47 rfl hl (by decide) rfl (fun ls hl => ?_)
        refine lv_iinc (v := x3 + 1) (lv' := [(3, .int (x3 + 1)), (2, .int o1.1), (0, .ref (ad 0))]) hx hb d_G_measureWaysTo_48 hl (k := 2) rfl rfl (by decide) rfl (fun ls hl => ?_)
        refine lv_goto (tgt := 32) hx hb d_G_measureWaysTo_51 (by decide) ?_
        exact ih o1.1 (x3 + 1) o1.2 _ hf _ _ _ hP hD hS (lv_sub hl [2, 1, 0] rfl) hk
set_option maxHeartbeats 4000000 in
set_option maxRecDepth 100000 in
theorem c_G_measureWaysTo (l : Launch) (dC : Nat → ClassId) (dI : Nat → Nat → Nat) (cI cZ : ClassId) (ad : Nat → Nat) (sz : Nat) (B : fg_A) (E : fg_A) (C : fg_A) (O : fg_A) (n : Int32) (F : fg_A) (L : fg_A) (V : fg_A) (p0 : Int32) (o : fg_A) (hf : f_G_measureWaysTo B E O n F p0 = some o) : Met l y_G_measureWaysTo w_G_measureWaysTo rm_G_measureWaysTo (gW_Pc dC dI cI cZ ad sz B E C O n F L V [.ref (ad 0), .int p0]) (gW_Qv dC dI cI cZ ad (va_A (gW cI cZ ad B E C O n F L V) sz) B E C O n o L V) 0 0 (va_A (gW cI cZ ad B E C O n F L V) sz) := by
  refine Met.ofW (cc := b_G_measureWaysTo) (maxL := 4) (ret := none) (by decide) rfl ?_
  intro p e s m args below meth c s₁ Bd hml hv
  obtain ⟨rfl, hsz, hP, hK, hD0⟩ := hv
  have hx := Bd.exec
  have hb := Bd.bytes
  have hr := Bd.returns
  have hts := fun w h => atoms_spec (ws := w_G_measureWaysTo) Bd.pre w (List.mem_cons_of_mem _ h)
  have hown : s.vm.findClass R_G = some m.cls := findClass_of_methodNamed Bd.named
  have hlocks := Bd.notSynchronized
  subst hsz
  have hD := hD0.self (sz := s.heap.size)
  generalize hAe : va_A (gW cI cZ ad B E C O n F L V) s.heap.size = A at hD ⊢
  have hA : ∀ q : Nat, s.heap.size ≤ q → A q := fun q h => by rw [← hAe]; exact Or.inr h
  have hS : va_S A s.heap s.heap [] := va_S.rf
  have hl := lv_entry ([.ref (ad 0), .int p0]) (n := 4) (Nat.le_of_ble_eq_true rfl)
  rw [lg_entry_eq]
  generalize (lg_sl ([.ref (ad 0), .int p0]) ++ List.replicate (4 - (lg_sl ([.ref (ad 0), .int p0])).length) Slot.unset).toArray = ls at hl ⊢
  have hl : lv_has ls 4 [(0, .ref (ad 0)), (1, .int p0)] := hl
  have hE : ∀ (pc : Nat) (H : Heap) (locs : List Loc) (ls : Array Slot), va_P (dC, dI) classes (gW cI cZ ad B E C O n o L V) H → va_D A (gW cI cZ ad B E C O n o L V) → va_S A s.heap H locs → decode b_G_measureWaysTo pc = .ok (.return_, 1) → W p l e (headSpec w_G_measureWaysTo rm_G_measureWaysTo).room s m ([.ref (ad 0), .int p0] : List Value).toArray below meth c H locs 0 0 (MQ below (gW_Qv dC dI cI cZ ad A B E C O n o L V) ([.ref (ad 0), .int p0] : List Value).toArray s 0 0 A) (F0 m pc ls []) := fun pc H locs ls hP hD hS hd => W.vret hx hb hr (fun t ht hW => ⟨⟨(), rfl, trivial, by rw [ht]; exact hP, va_K.moved hW.alike hK, hD⟩, hS.F ht⟩) hS.2.2 hd
  unfold f_G_measureWaysTo at hf
  refine lv_iconst (v := 0) hx hb d_G_measureWaysTo_0 (by decide) ?_
  refine lv_istore_n (lv' := [(2, .int 0), (0, .ref (ad 0)), (1, .int p0)]) hx hb d_G_measureWaysTo_1 rfl hl (by decide) rfl (fun ls hl => ?_)
  obtain ⟨o1, hco1, hf⟩ := fg_ob_some hf
  refine w_G_measureWaysTo_2 hx hb hml hown hts hK hA p0 B E C O n L V fu 0 F o1 hco1 _ _ _ hP hD hS (lv_sub hl [1, 2, 0] rfl) (fun H locs ls hP hD hS hl => ?_)
  refine lv_aload_n hx hb d_G_measureWaysTo_21 rfl (lv_at hl 0 rfl) ?_
  refine va_get (D := (dC, dI)) (ci := 0) (v := .ref (ad 5)) (C := R_G) (T := F_G) (N := 8) hx hb hts i_G hown hK hP 0 rfl rfl 5 (by decide) (hts _ fl_G_27) (fun _ h9 => h9) rfl d_G_measureWaysTo_22 ?_
  refine lv_iload_n hx hb d_G_measureWaysTo_25 rfl (lv_at hl 1 rfl) ?_
  refine lv_iconst (v := 0) hx hb d_G_measureWaysTo_26 (by decide) ?_
  obtain ⟨hi, hf⟩ := fg_og_some hf
  refine va_iast hx hb hK hP hD hS 5 0 rfl rfl (ix_in hi) d_G_measureWaysTo_27 (fun H locs hP hD hS => ?_)
  have hP : va_P (dC, dI) classes (gW cI cZ ad B E C O n (upd o1 p0.toNatClampNeg 0) L V) H := hP
  have hD : va_D A (gW cI cZ ad B E C O n (upd o1 p0.toNatClampNeg 0) L V) := hD
  refine lv_iconst (v := 1) hx hb d_G_measureWaysTo_28 (by decide) ?_
  refine lv_istore_n (lv' := [(2, .int 1), (0, .ref (ad 0)), (1, .int p0)]) hx hb d_G_measureWaysTo_29 rfl hl (by decide) rfl (fun ls hl => ?_)
  refine lv_iconst (v := 1) hx hb d_G_measureWaysTo_30 (by decide) ?_
  refine lv_istore_n (lv' := [(3, .int 1), (2, .int 1), (0, .ref (ad 0)), (1, .int p0)]) hx hb d_G_measureWaysTo_31 rfl hl (by decide) rfl (fun ls hl => ?_)
  obtain ⟨o2, hco2, hf⟩ := fg_ob_some hf
  refine w_G_measureWaysTo_32 hx hb hml hown hts hK hA B E C O n L V fu 1 1 (upd o1 p0.toNatClampNeg 0) o2 hco2 _ _ _ hP hD hS (lv_sub hl [2, 1, 0] rfl) (fun H locs ls hP hD hS hl => ?_)
  cases hf
  exact hE _ _ _ _ hP hD hS d_G_measureWaysTo_54
