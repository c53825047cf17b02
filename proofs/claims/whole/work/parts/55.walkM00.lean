set_option maxHeartbeats 4000000 in
set_option maxRecDepth 100000 in
theorem c_M_thrown (l : Launch) (dC : Nat → ClassId) (dI : Nat → Nat → Nat) (cI cZ : ClassId) (ad : Nat → Nat) (sz : Nat) (t : Int32) (n : Int32) (B : fg_A) (E : fg_A) (C : fg_A) (O : fg_A) (F : fg_A) (L : fg_A) (V : fg_A) (o : Int32) (hf : f_M_thrown t = some o) : Met l y_M_thrown w_M_thrown rm_M_thrown (mW_Pc dC dI cI cZ ad sz t n B E C O F L V [.ref (ad 0)]) (mW_Qi dC dI cI cZ ad (va_A (mW cI cZ ad t n B E C O F L V) sz) t n B E C O F L V o) 0 0 (va_A (mW cI cZ ad t n B E C O F L V) sz) := by
  refine Met.ofW (cc := b_M_thrown) (maxL := 1) (ret := (some .int)) (by decide) rfl ?_
  intro p e s m args below meth c s₁ Bd hml hv
  obtain ⟨rfl, hsz, hP, hK, hD0⟩ := hv
  have hx := Bd.exec
  have hb := Bd.bytes
  have hr := Bd.returns
  have hts := fun w h => atoms_spec (ws := w_M_thrown) Bd.pre w (List.mem_cons_of_mem _ h)
  have hown : s.vm.findClass R_M = some m.cls := findClass_of_methodNamed Bd.named
  have hlocks := Bd.notSynchronized
  subst hsz
  have hD := hD0.self (sz := s.heap.size)
  generalize hAe : va_A (mW cI cZ ad t n B E C O F L V) s.heap.size = A at hD ⊢
  have hA : ∀ q : Nat, s.heap.size ≤ q → A q := fun q h => by rw [← hAe]; exact Or.inr h
  have hS : va_S A s.heap s.heap [] := va_S.rf
  have hl := lv_entry ([.ref (ad 0)]) (n := 1) (Nat.le_of_ble_eq_true rfl)
  rw [lg_entry_eq]
  generalize (lg_sl ([.ref (ad 0)]) ++ List.replicate (1 - (lg_sl ([.ref (ad 0)])).length) Slot.unset).toArray = ls at hl ⊢
  have hl : lv_has ls 1 [(0, .ref (ad 0))] := hl
  have hE : ∀ (pc : Nat) (H : Heap) (locs : List Loc) (ls : Array Slot), va_P (dC, dI) classes (mW cI cZ ad t n B E C O F L V) H → va_D A (mW cI cZ ad t n B E C O F L V) → va_S A s.heap H locs → decode b_M_thrown pc = .ok (.ireturn, 1) → W p l e (headSpec w_M_thrown rm_M_thrown).room s m ([.ref (ad 0)] : List Value).toArray below meth c H locs 0 0 (MQ below (mW_Qi dC dI cI cZ ad A t n B E C O F L V o) ([.ref (ad 0)] : List Value).toArray s 0 0 A) (F0 m pc ls [.int o]) := fun pc H locs ls hP hD hS hd => W.iret (v := o) hx hb hr (fun t ht hW => ⟨⟨o, (), rfl, rfl, by rw [ht]; exact hP, va_K.moved hW.alike hK, hD⟩, hS.F ht⟩) hS.2.2 hd
  unfold f_M_thrown at hf
  refine lv_aload_n hx hb d_M_thrown_0 rfl (lv_at hl 0 rfl) ?_
  refine va_get (D := (dC, dI)) (ci := 1) (v := .int t) (C := R_M) (T := F_M) (N := 9) hx hb hts i_M hown hK hP 0 rfl rfl 0 (by decide) (hts _ fl_M_32) (fun _ h9 => h9) rfl d_M_thrown_1 ?_
  cases hf
  exact hE _ _ _ _ hP hD hS d_M_thrown_4
set_option maxHeartbeats 4000000 in
set_option maxRecDepth 100000 in
theorem c_M_refuse (l : Launch) (dC : Nat → ClassId) (dI : Nat → Nat → Nat) (cI cZ : ClassId) (ad : Nat → Nat) (sz : Nat) (t : Int32) (n : Int32) (B : fg_A) (E : fg_A) (C : fg_A) (O : fg_A) (F : fg_A) (L : fg_A) (V : fg_A) (p0 : Int32) (p1 : Int32) (o : Int32 × Int32) (hf : f_M_refuse t p0 p1 = some o) : Met l y_M_refuse w_M_refuse rm_M_refuse (mW_Pc dC dI cI cZ ad sz t n B E C O F L V [.ref (ad 0), .int p0, .int p1]) (mW_Qi dC dI cI cZ ad (va_A (mW cI cZ ad t n B E C O F L V) sz) o.2 n B E C O F L V o.1) 0 0 (va_A (mW cI cZ ad t n B E C O F L V) sz) := by
  refine Met.ofW (cc := b_M_refuse) (maxL := 3) (ret := (some .boolean)) (by decide) rfl ?_
  intro p e s m args below meth c s₁ Bd hml hv
  obtain ⟨rfl, hsz, hP, hK, hD0⟩ := hv
  have hx := Bd.exec
  have hb := Bd.bytes
  have hr := Bd.returns
  have hts := fun w h => atoms_spec (ws := w_M_refuse) Bd.pre w (List.mem_cons_of_mem _ h)
  have hown : s.vm.findClass R_M = some m.cls := findClass_of_methodNamed Bd.named
  have hlocks := Bd.notSynchronized
  subst hsz
  have hD := hD0.self (sz := s.heap.size)
  generalize hAe : va_A (mW cI cZ ad t n B E C O F L V) s.heap.size = A at hD ⊢
  have hA : ∀ q : Nat, s.heap.size ≤ q → A q := fun q h => by rw [← hAe]; exact Or.inr h
  have hS : va_S A s.heap s.heap [] := va_S.rf
  have hl := lv_entry ([.ref (ad 0), .int p0, .int p1]) (n := 3) (Nat.le_of_ble_eq_true rfl)
  rw [lg_entry_eq]
  generalize (lg_sl ([.ref (ad 0), .int p0, .int p1]) ++ List.replicate (3 - (lg_sl ([.ref (ad 0), .int p0, .int p1])).length) Slot.unset).toArray = ls at hl ⊢
  have hl : lv_has ls 3 [(0, .ref (ad 0)), (1, .int p0), (2, .int p1)] := hl
  have hE : ∀ (pc : Nat) (H : Heap) (locs : List Loc) (ls : Array Slot), va_P (dC, dI) classes (mW cI cZ ad o.2 n B E C O F L V) H → va_D A (mW cI cZ ad o.2 n B E C O F L V) → va_S A s.heap H locs → narrow .boolean (.int o.1) = .int o.1 → decode b_M_refuse pc = .ok (.ireturn, 1) → W p l e (headSpec w_M_refuse rm_M_refuse).room s m ([.ref (ad 0), .int p0, .int p1] : List Value).toArray below meth c H locs 0 0 (MQ below (mW_Qi dC dI cI cZ ad A o.2 n B E C O F L V o.1) ([.ref (ad 0), .int p0, .int p1] : List Value).toArray s 0 0 A) (F0 m pc ls [.int o.1]) := fun pc H locs ls hP hD hS hn hd => W.zret (v := o.1) hx hb hr hn (fun t ht hW => ⟨⟨o.1, (), rfl, rfl, by rw [ht]; exact hP, va_K.moved hW.alike hK, hD⟩, hS.F ht⟩) hS.2.2 hd
  unfold f_M_refuse at hf
  refine lv_aload_n hx hb d_M_refuse_0 rfl (lv_at hl 0 rfl) ?_
  refine lv_iload_n hx hb d_M_refuse_1 rfl (lv_at hl 1 rfl) ?_
  refine lv_if_eq (tgt := 9) hx hb d_M_refuse_2 (by decide) (fun hc => ?_) (fun hc => ?_)
  · rw [if_pos hc] at hf
    refine lv_iload_n hx hb d_M_refuse_9 rfl (lv_at hl 2 rfl) ?_
    refine lv_if_eq (tgt := 17) hx hb d_M_refuse_10 (by decide) (fun hc => ?_) (fun hc => ?_)
    · rw [if_pos hc] at hf
      refine lv_iconst (v := 0) hx hb d_M_refuse_17 (by decide) ?_
      refine va_put (D := (dC, dI)) (ci := 1) (v := .int 0) (ty := .int) (C := R_M) (T := F_M) (N := 9) hx hb hts i_M t_M t_M_ok n_M hown hK hP hD hS 0 rfl rfl 0 (by decide) (hts _ fl_M_32) (fun _ h9 => h9) rfl (by decide +kernel) rfl rfl (Nat.le_of_ble_eq_true rfl) d_M_refuse_18 (fun H locs hP hD hS => ?_)
      have hP : va_P (dC, dI) classes (mW cI cZ ad 0 n B E C O F L V) H := hP
      have hD : va_D A (mW cI cZ ad 0 n B E C O F L V) := hD
      refine lv_aload_n hx hb d_M_refuse_21 rfl (lv_at hl 0 rfl) ?_
      refine va_get (D := (dC, dI)) (ci := 1) (v := .int 0) (C := R_M) (T := F_M) (N := 9) hx hb hts i_M hown hK hP 0 rfl rfl 0 (by decide) (hts _ fl_M_32) (fun _ h9 => h9) rfl d_M_refuse_22 ?_
      refine lv_if_le (tgt := 32) hx hb d_M_refuse_25 (by decide) (fun hc => ?_) (fun hc => ?_)
      · refine lv_iconst (v := 0) hx hb d_M_refuse_32 (by decide) ?_
        cases hf
        exact hE _ _ _ _ hP hD hS (by first | decide | (dsimp only; decide)) d_M_refuse_33
      · exact absurd hc (by decide)
    · rw [if_neg hc] at hf
      refine lv_iconst (v := 2) hx hb d_M_refuse_13 (by decide) ?_
      refine lv_goto (tgt := 18) hx hb d_M_refuse_14 (by decide) ?_
      refine va_put (D := (dC, dI)) (ci := 1) (v := .int 2) (ty := .int) (C := R_M) (T := F_M) (N := 9) hx hb hts i_M t_M t_M_ok n_M hown hK hP hD hS 0 rfl rfl 0 (by decide) (hts _ fl_M_32) (fun _ h9 => h9) rfl (by decide +kernel) rfl rfl (Nat.le_of_ble_eq_true rfl) d_M_refuse_18 (fun H locs hP hD hS => ?_)
      have hP : va_P (dC, dI) classes (mW cI cZ ad 2 n B E C O F L V) H := hP
      have hD : va_D A (mW cI cZ ad 2 n B E C O F L V) := hD
      refine lv_aload_n hx hb d_M_refuse_21 rfl (lv_at hl 0 rfl) ?_
      refine va_get (D := (dC, dI)) (ci := 1) (v := .int 2) (C := R_M) (T := F_M) (N := 9) hx hb hts i_M hown hK hP 0 rfl rfl 0 (by decide) (hts _ fl_M_32) (fun _ h9 => h9) rfl d_M_refuse_22 ?_
      refine lv_if_le (tgt := 32) hx hb d_M_refuse_25 (by decide) (fun hc => ?_) (fun hc => ?_)
      · exact absurd hc (by decide)
      · refine lv_iconst (v := 1) hx hb d_M_refuse_28 (by decide) ?_
        refine lv_goto (tgt := 33) hx hb d_M_refuse_29 (by decide) ?_
        cases hf
        exact hE _ _ _ _ hP hD hS (by first | decide | (dsimp only; decide)) d_M_refuse_33
  · rw [if_neg hc] at hf
    refine lv_iconst (v := 1) hx hb d_M_refuse_5 (by decide) ?_
    refine lv_goto (tgt := 18) hx hb d_M_refuse_6 (by decide) ?_
    refine va_put (D := (dC, dI)) (ci := 1) (v := .int 1) (ty := .int) (C := R_M) (T := F_M) (N := 9) hx hb hts i_M t_M t_M_ok n_M hown hK hP hD hS 0 rfl rfl 0 (by decide) (hts _ fl_M_32) (fun _ h9 => h9) rfl (by decide +kernel) rfl rfl (Nat.le_of_ble_eq_true rfl) d_M_refuse_18 (fun H locs hP hD hS => ?_)
    have hP : va_P (dC, dI) classes (mW cI cZ ad 1 n B E C O F L V) H := hP
    have hD : va_D A (mW cI cZ ad 1 n B E C O F L V) := hD
    refine lv_aload_n hx hb d_M_refuse_21 rfl (lv_at hl 0 rfl) ?_
    refine va_get (D := (dC, dI)) (ci := 1) (v := .int 1) (C := R_M) (T := F_M) (N := 9) hx hb hts i_M hown hK hP 0 rfl rfl 0 (by decide) (hts _ fl_M_32) (fun _ h9 => h9) rfl d_M_refuse_22 ?_
    refine lv_if_le (tgt := 32) hx hb d_M_refuse_25 (by decide) (fun hc => ?_) (fun hc => ?_)
    · exact absurd hc (by decide)
    · refine lv_iconst (v := 1) hx hb d_M_refuse_28 (by decide) ?_
      refine lv_goto (tgt := 33) hx hb d_M_refuse_29 (by decide) ?_
      cases hf
      exact hE _ _ _ _ hP hD hS (by first | decide | (dsimp only; decide)) d_M_refuse_33
set_option maxHeartbeats 4000000 in
set_option maxRecDepth 100000 in
theorem c_M_in (l : Launch) (p0 : Int32) (p1 : Int32) (p2 : Int32) (o : Int32) (hf : f_M_in p0 p1 p2 = some o) : Met l y_M_in w_M_in rm_M_in (fun v _ => v = ([.int p0, .int p1, .int p2] : List Value).toArray) (QcRead o) 0 0 (fun _ => False) := by
  refine Met.ofW (cc := b_M_in) (maxL := 3) (ret := (some .boolean)) (by decide) rfl ?_
  intro p e s m args below meth c s₁ Bd hml hv
  obtain rfl := hv
  have hx := Bd.exec
  have hb := Bd.bytes
  have hr := Bd.returns
  have hts := fun w h => atoms_spec (ws := w_M_in) Bd.pre w (List.mem_cons_of_mem _ h)
  have hown : s.vm.findClass R_M = some m.cls := findClass_of_methodNamed Bd.named
  have hlocks := Bd.notSynchronized
  have hl := lv_entry ([.int p0, .int p1, .int p2]) (n := 3) (Nat.le_of_ble_eq_true rfl)
  rw [lg_entry_eq]
  generalize (lg_sl ([.int p0, .int p1, .int p2]) ++ List.replicate (3 - (lg_sl ([.int p0, .int p1, .int p2])).length) Slot.unset).toArray = ls at hl ⊢
  have hl : lv_has ls 3 [(0, .int p0), (1, .int p1), (2, .int p2)] := hl
  unfold f_M_in at hf
  refine lv_iload_n hx hb d_M_in_0 rfl (lv_at hl 0 rfl) ?_
  refine lv_iload_n hx hb d_M_in_1 rfl (lv_at hl 1 rfl) ?_
  refine lv_icmp_lt (tgt := 14) hx hb d_M_in_2 (by decide) (fun hc => ?_) (fun hc => ?_)
  · rw [if_pos hc] at hf
    refine lv_iconst (v := 0) hx hb d_M_in_14 (by decide) ?_
    cases hf
    exact W.zret hx hb hr (by decide) (fun t ht hW => ⟨rfl, ht⟩) (fun q h => by cases h) d_M_in_15
  · rw [if_neg hc] at hf
    refine lv_iload_n hx hb d_M_in_5 rfl (lv_at hl 0 rfl) ?_
    refine lv_iload_n hx hb d_M_in_6 rfl (lv_at hl 2 rfl) ?_
    refine lv_icmp_gt (tgt := 14) hx hb d_M_in_7 (by decide) (fun hc => ?_) (fun hc => ?_)
    · rw [if_pos hc] at hf
      refine lv_iconst (v := 0) hx hb d_M_in_14 (by decide) ?_
      cases hf
      exact W.zret hx hb hr (by decide) (fun t ht hW => ⟨rfl, ht⟩) (fun q h => by cases h) d_M_in_15
    · rw [if_neg hc] at hf
      refine lv_iconst (v := 1) hx hb d_M_in_10 (by decide) ?_
      refine lv_goto (tgt := 15) hx hb d_M_in_11 (by decide) ?_
      cases hf
      exact W.zret hx hb hr (by decide) (fun t ht hW => ⟨rfl, ht⟩) (fun q h => by cases h) d_M_in_15
set_option maxHeartbeats 4000000 in
set_option maxRecDepth 100000 in
theorem c_M_clear (l : Launch) (dC : Nat → ClassId) (dI : Nat → Nat → Nat) (cI cZ : ClassId) (ad : Nat → Nat) (sz : Nat) (t : Int32) (n : Int32) (B : fg_A) (E : fg_A) (C : fg_A) (O : fg_A) (F : fg_A) (L : fg_A) (V : fg_A) (o : Int32 × Int32) (hf : f_M_clear t n = some o) : Met l y_M_clear w_M_clear rm_M_clear (mW_Pc dC dI cI cZ ad sz t n B E C O F L V [.ref (ad 0)]) (mW_Qv dC dI cI cZ ad (va_A (mW cI cZ ad t n B E C O F L V) sz) o.1 o.2 B E C O F L V) 0 0 (va_A (mW cI cZ ad t n B E C O F L V) sz) := by
  refine Met.ofW (cc := b_M_clear) (maxL := 1) (ret := none) (by decide) rfl ?_
  intro p e s m args below meth c s₁ Bd hml hv
  obtain ⟨rfl, hsz, hP, hK, hD0⟩ := hv
  have hx := Bd.exec
  have hb := Bd.bytes
  have hr := Bd.returns
  have hts := fun w h => atoms_spec (ws := w_M_clear) Bd.pre w (List.mem_cons_of_mem _ h)
  have hown : s.vm.findClass R_M = some m.cls := findClass_of_methodNamed Bd.named
  have hlocks := Bd.notSynchronized
  subst hsz
  have hD := hD0.self (sz := s.heap.size)
  generalize hAe : va_A (mW cI cZ ad t n B E C O F L V) s.heap.size = A at hD ⊢
  have hA : ∀ q : Nat, s.heap.size ≤ q → A q := fun q h => by rw [← hAe]; exact Or.inr h
  have hS : va_S A s.heap s.heap [] := va_S.rf
  have hl := lv_entry ([.ref (ad 0)]) (n := 1) (Nat.le_of_ble_eq_true rfl)
  rw [lg_entry_eq]
  generalize (lg_sl ([.ref (ad 0)]) ++ List.replicate (1 - (lg_sl ([.ref (ad 0)])).length) Slot.unset).toArray = ls at hl ⊢
  have hl : lv_has ls 1 [(0, .ref (ad 0))] := hl
  have hE : ∀ (pc : Nat) (H : Heap) (locs : List Loc) (ls : Array Slot), va_P (dC, dI) classes (mW cI cZ ad o.1 o.2 B E C O F L V) H → va_D A (mW cI cZ ad o.1 o.2 B E C O F L V) → va_S A s.heap H locs → decode b_M_clear pc = .ok (.return_, 1) → W p l e (headSpec w_M_clear rm_M_clear).room s m ([.ref (ad 0)] : List Value).toArray below meth c H locs 0 0 (MQ below (mW_Qv dC dI cI cZ ad A o.1 o.2 B E C O F L V) ([.ref (ad 0)] : List Value).toArray s 0 0 A) (F0 m pc ls []) := fun pc H locs ls hP hD hS hd => W.vret hx hb hr (fun t ht hW => ⟨⟨(), rfl, trivial, by rw [ht]; exact hP, va_K.moved hW.alike hK, hD⟩, hS.F ht⟩) hS.2.2 hd
  unfold f_M_clear at hf
  refine lv_aload_n hx hb d_M_clear_0 rfl (lv_at hl 0 rfl) ?_
  refine lv_iconst (v := 0) hx hb d_M_clear_1 (by decide) ?_
  refine va_put (D := (dC, dI)) (ci := 1) (v := .int 0) (ty := .int) (C := R_M) (T := F_M) (N := 9) hx hb hts i_M t_M t_M_ok n_M hown hK hP hD hS 0 rfl rfl 0 (by decide) (hts _ fl_M_32) (fun _ h9 => h9) rfl (by decide +kernel) rfl rfl (Nat.le_of_ble_eq_true rfl) d_M_clear_2 (fun H locs hP hD hS => ?_)
  have hP : va_P (dC, dI) classes (mW cI cZ ad 0 n B E C O F L V) H := hP
  have hD : va_D A (mW cI cZ ad 0 n B E C O F L V) := hD
  refine lv_aload_n hx hb d_M_clear_5 rfl (lv_at hl 0 rfl) ?_
  refine lv_iconst (v := 0) hx hb d_M_clear_6 (by decide) ?_
  refine va_put (D := (dC, dI)) (ci := 1) (v := .int 0) (ty := .int) (C := R_M) (T := F_M) (N := 9) hx hb hts i_M t_M t_M_ok n_M hown hK hP hD hS 0 rfl rfl 1 (by decide) (hts _ fl_M_40) (fun _ h9 => h9) rfl (by decide +kernel) rfl rfl (Nat.le_of_ble_eq_true rfl) d_M_clear_7 (fun H locs hP hD hS => ?_)
  have hP : va_P (dC, dI) classes (mW cI cZ ad 0 0 B E C O F L V) H := hP
  have hD : va_D A (mW cI cZ ad 0 0 B E C O F L V) := hD
  cases hf
  exact hE _ _ _ _ hP hD hS d_M_clear_10
set_option maxHeartbeats 4000000 in
set_option maxRecDepth 100000 in
theorem w_M_measure_2 {p : Program} {l : Launch} {e : Env} {s : State} {m : MethodId} {args : Array Value} {below : List Frame} {meth : Method} {c : Code} {Q : State → Prop} {A : Nat → Prop} {dC : Nat → ClassId} {dI : Nat → Nat → Nat} {cI cZ : ClassId} {ad : Nat → Nat} (hx : p.tables.exec = Jvm.exec) (hb : c.code = b_M_measure) (hml : c.maxLocals = 7) (hown : s.vm.findClass R_M = some m.cls) (hts : ∀ w ∈ gw, w.before args s = true) (hK : va_K (dC, dI) classes (gT cI cZ) s) (hA : ∀ q : Nat, s.heap.size ≤ q → A q) (x1 : Int32) (x2 : Int32) (t : Int32) (n : Int32) (B : fg_A) (E : fg_A) (C : fg_A) (O : fg_A) (L : fg_A) (V : fg_A) :
    ∀ (k : Nat) (x3 : Int32) (F : fg_A) (o : fg_A), f_M_measure_2 x1 x2 k x3 F = some o → ∀ (H : Heap) (locs : List Loc) (ls : Array Slot), va_P (dC, dI) classes (mW cI cZ ad t n B E C O F L V) H → va_D A (mW cI cZ ad t n B E C O F L V) → va_S A s.heap H locs → lv_has ls 7 [(0, .ref (ad 0)), (1, .int x1), (2, .int x2), (3, .int x3)] →
    (∀ (H : Heap) (locs : List Loc) (ls : Array Slot), va_P (dC, dI) classes (mW cI cZ ad t n B E C O o L V) H → va_D A (mW cI cZ ad t n B E C O o L V) → va_S A s.heap H locs → lv_has ls 7 [(0, .ref (ad 0)), (1, .int x1), (2, .int x2)] → W p l e (headSpec w_M_measure rm_M_measure).room s m args below meth c H locs 0 0 Q (F0 m 21 ls [])) → W p l e (headSpec w_M_measure rm_M_measure).room s m args below meth c H locs 0 0 Q (F0 m 2 ls []) := by
  intro k
  induction k with
  | zero =>
    intro x3 F o hf
    exact absurd (show none = some o from hf) (by simp)
  | succ k ih =>
    intro x3 F o hf H locs ls hP hD hS hl hk
    rw [f_M_measure_2] at hf
    refine lv_iload_n hx hb d_M_measure_2 rfl (lv_at hl 3 rfl) ?_
    refine lv_bipush (v := 28) hx hb d_M_measure_3 (by decide) ?_
    refine lv_icmp_ge (tgt := 21) hx hb d_M_measure_5 (by decide) (fun hc => ?_) (fun hc => ?_)
    · rw [if_pos hc] at hf
      cases hf
      exact hk _ _ _ hP hD hS (lv_sub hl [0, 1, 2] rfl)
    · rw [if_neg hc] at hf
      refine lv_aload_n hx hb d_M_measure_8 rfl (lv_at hl 0 rfl) ?_
      refine va_get (D := (dC, dI)) (ci := 1) (v := .ref (ad 5)) (C := R_M) (T := F_M) (N := 9) hx hb hts i_M hown hK hP 0 rfl rfl 6 (by decide) (hts _ fl_M_23) (fun _ h9 => h9) rfl d_M_measure_9 ?_
      refine lv_iload_n hx hb d_M_measure_12 rfl (lv_at hl 3 rfl) ?_
      refine lv_iconst (v := (-1)) hx hb d_M_measure_13 (by decide) ?_
      obtain ⟨hi, hf⟩ := fg_og_some hf
      refine va_iast hx hb hK hP hD hS 5 0 rfl rfl (ix_in hi) d_M_measure_14 (fun H locs hP hD hS => ?_)
      have hP : va_P (dC, dI) classes (mW cI cZ ad t n B E C O (upd F x3.toNatClampNeg (-1)) L V) H := hP
      have hD : va_D A (mW cI cZ ad t n B E C O (upd F x3.toNatClampNeg (-1)) L V) := hD
      refine lv_iinc (v := x3 + 1) (lv' := [(3, .int (x3 + 1)), (0, .ref (ad 0)), (1, .int x1), (2, .int x2)]) hx hb d_M_measure_15 hl (k := 3) rfl rfl (by decide) rfl (fun ls hl => ?_)
      refine lv_goto (tgt := 2) hx hb d_M_measure_18 (by decide) ?_
      exact ih (x3 + 1) (upd F x3.toNatClampNeg (-1)) _ hf _ _ _ hP hD hS (lv_sub hl [1, 2, 3, 0] rfl) hk
set_option maxHeartbeats 4000000 in
set_option maxRecDepth 100000 in
theorem w_M_measure_42 {p : Program} {l : Launch} {e : Env} {s : State} {m : MethodId} {args : Array Value} {below : List Frame} {meth : Method} {c : Code} {Q : State → Prop} {A : Nat → Prop} {dC : Nat → ClassId} {dI : Nat → Nat → Nat} {cI cZ : ClassId} {ad : Nat → Nat} (hx : p.tables.exec = Jvm.exec) (hb : c.code = b_M_measure) (hml : c.maxLocals = 7) (hown : s.vm.findClass R_M = some m.cls) (hts : ∀ w ∈ gw, w.before args s = true) (hK : va_K (dC, dI) classes (gT cI cZ) s) (hA : ∀ q : Nat, s.heap.size ≤ q → A q) (x2 : Int32) (x4 : Int32) (t : Int32) (n : Int32) (B : fg_A) (E : fg_A) (C : fg_A) (O : fg_A) (L : fg_A) (V : fg_A) :
    ∀ (k : Nat) (x3 : Int32) (x5 : Int32) (F : fg_A) (o : Int32 × fg_A), f_M_measure_42 n B E O x2 x4 k x3 x5 F = some o → ∀ (H : Heap) (locs : List Loc) (ls : Array Slot), va_P (dC, dI) classes (mW cI cZ ad t n B E C O F L V) H → va_D A (mW cI cZ ad t n B E C O F L V) → va_S A s.heap H locs → lv_has ls 7 [(0, .ref (ad 0)), (2, .int x2), (3, .int x3), (4, .int x4), (5, .int x5)] →
    (∀ (H : Heap) (locs : List Loc) (ls : Array Slot), va_P (dC, dI) classes (mW cI cZ ad t n B E C O o.2 L V) H → va_D A (mW cI cZ ad t n B E C O o.2 L V) → va_S A s.heap H locs → lv_has ls 7 [(0, .ref (ad 0)), (2, .int x2), (3, .int o.1), (4, .int x4)] → W p l e (headSpec w_M_measure rm_M_measure).room s m args below meth c H locs 0 0 Q (F0 m 151 ls [])) → W p l e (headSpec w_M_measure rm_M_measure).room s m args below meth c H locs 0 0 Q (F0 m 42 ls []) := by
  intro k
  induction k with
  | zero =>
    intro x3 x5 F o hf
    exact absurd (show none = some o from hf) (by simp)
  | succ k ih =>
    intro x3 x5 F o hf H locs ls hP hD hS hl hk
    rw [f_M_measure_42] at hf
    refine lv_iload hx hb d_M_measure_42 (lv_at hl 4 rfl) ?_
    refine lv_aload_n hx hb d_M_measure_44 rfl (lv_at hl 0 rfl) ?_
    refine va_get (D := (dC, dI)) (ci := 1) (v := .int n) (C := R_M) (T := F_M) (N := 9) hx hb hts i_M hown hK hP 0 rfl rfl 1 (by decide) (hts _ fl_M_40) (fun _ h9 => h9) rfl d_M_measure_45 ?_
    refine lv_icmp_ge (tgt := 151) hx hb d_M_measure_48 (by decide) (fun hc => ?_) (fun hc => ?_)
    · rw [if_pos hc] at hf
      cases hf
      exact hk _ _ _ hP hD hS (lv_sub hl [0, 1, 2, 3] rfl)
    · rw [if_neg hc] at hf
      refine lv_aload_n hx hb d_M_measure_51 rfl (lv_at hl 0 rfl) ?_
      refine va_get (D := (dC, dI)) (ci := 1) (v := .ref (ad 4)) (C := R_M) (T := F_M) (N := 9) hx hb hts i_M hown hK hP 0 rfl rfl 5 (by decide) (hts _ fl_M_19) (fun _ h9 => h9) rfl d_M_measure_52 ?_
      refine lv_iload hx hb d_M_measure_55 (lv_at hl 4 rfl) ?_
      obtain ⟨hi, hf⟩ := fg_og_some hf
      refine va_zald hx hb hK hP 4 1 rfl rfl (ix_in hi) d_M_measure_57 ?_
      refine lv_if_eq (tgt := 119) hx hb d_M_measure_58 (by decide) (fun hc => ?_) (fun hc => ?_)
      · rw [if_pos hc] at hf
        refine lv_iconst (v := 0) hx hb d_M_measure_119 (by decide) ?_
        refine lv_istore (lv' := [(6, .int 0), (0, .ref (ad 0)), (2, .int x2), (3, .int x3), (4, .int x4), (5, .int x5)]) hx hb d_M_measure_120 hl (by decide) rfl (fun ls hl => ?_)
        refine lv_iload hx hb d_M_measure_122 (lv_at hl 0 rfl) ?_
        refine lv_if_eq (tgt := 145) hx hb d_M_measure_124 (by decide) (fun hc => ?_) (fun hc => ?_)
        · refine lv_iinc (v := x5 + 1) (lv' := [(5, .int (x5 + 1)), (6, .int 0), (0, .ref (ad 0)), (2, .int x2), (3, .int x3), (4, .int x4)]) hx hb d_M_measure_145 hl (k := 5) rfl rfl (by decide) rfl (fun ls hl => ?_)
          refine lv_goto (tgt := 42) hx hb d_M_measure_148 (by decide) ?_
          exact ih x3 (x5 + 1) F _ hf _ _ _ hP hD hS (lv_sub hl [2, 3, 4, 5, 0] rfl) hk
        · exact absurd hc (by decide)
      · rw [if_neg hc] at hf
        refine lv_aload_n hx hb d_M_measure_61 rfl (lv_at hl 0 rfl) ?_
        refine va_get (D := (dC, dI)) (ci := 1) (v := .ref (ad 5)) (C := R_M) (T := F_M) (N := 9) hx hb hts i_M hown hK hP 0 rfl rfl 6 (by decide) (hts _ fl_M_23) (fun _ h9 => h9) rfl d_M_measure_62 ?_
        refine lv_aload_n hx hb d_M_measure_65 rfl (lv_at hl 0 rfl) ?_
        refine va_get (D := (dC, dI)) (ci := 1) (v := .ref (ad 2)) (C := R_M) (T := F_M) (N := 9) hx hb hts i_M hown hK hP 0 rfl rfl 3 (by decide) (hts _ fl_M_13) (fun _ h9 => h9) rfl d_M_measure_66 ?_
        refine lv_iload hx hb d_M_measure_69 (lv_at hl 4 rfl) ?_
        obtain ⟨hi, hf⟩ := fg_og_some hf
        refine va_iald hx hb hK hP 2 0 rfl rfl (ix_in hi) d_M_measure_71 ?_
        obtain ⟨hi, hf⟩ := fg_og_some hf
        refine va_iald hx hb hK hP 5 0 rfl rfl (ix_in hi) d_M_measure_72 ?_
        refine lv_iload hx hb d_M_measure_73 (lv_at hl 3 rfl) ?_
        refine lv_icmp_ne (tgt := 119) hx hb d_M_measure_75 (by decide) (fun hc => ?_) (fun hc => ?_)
        · rw [if_neg hc] at hf
          refine lv_iconst (v := 0) hx hb d_M_measure_119 (by decide) ?_
          refine lv_istore (lv' := [(6, .int 0), (0, .ref (ad 0)), (2, .int x2), (3, .int x3), (4, .int x4), (5, .int x5)]) hx hb d_M_measure_120 hl (by decide) rfl (fun ls hl => ?_)
          refine lv_iload hx hb d_M_measure_122 (lv_at hl 0 rfl) ?_
          refine lv_if_eq (tgt := 145) hx hb d_M_measure_124 (by decide) (fun hc => ?_) (fun hc => ?_)
          · refine lv_iinc (v := x5 + 1) (lv' := [(5, .int (x5 + 1)), (6, .int 0), (0, .ref (ad 0)), (2, .int x2), (3, .int x3), (4, .int x4)]) hx hb d_M_measure_145 hl (k := 5) rfl rfl (by decide) rfl (fun ls hl => ?_)
            refine lv_goto (tgt := 42) hx hb d_M_measure_148 (by decide) ?_
            exact ih x3 (x5 + 1) F _ hf _ _ _ hP hD hS (lv_sub hl [2, 3, 4, 5, 0] rfl) hk
          · exact absurd hc (by decide)
        · rw [if_pos hc] at hf
          refine lv_aload_n hx hb d_M_measure_78 rfl (lv_at hl 0 rfl) ?_
          refine va_get (D := (dC, dI)) (ci := 1) (v := .ref (ad 5)) (C := R_M) (T := F_M) (N := 9) hx hb hts i_M hown hK hP 0 rfl rfl 6 (by decide) (hts _ fl_M_23) (fun _ h9 => h9) rfl d_M_measure_79 ?_
          refine lv_aload_n hx hb d_M_measure_82 rfl (lv_at hl 0 rfl) ?_
          refine va_get (D := (dC, dI)) (ci := 1) (v := .ref (ad 1)) (C := R_M) (T := F_M) (N := 9) hx hb hts i_M hown hK hP 0 rfl rfl 2 (by decide) (hts _ fl_M_7) (fun _ h9 => h9) rfl d_M_measure_83 ?_
          refine lv_iload hx hb d_M_measure_86 (lv_at hl 4 rfl) ?_
          obtain ⟨hi, hf⟩ := fg_og_some hf
          refine va_iald hx hb hK hP 1 0 rfl rfl (ix_in hi) d_M_measure_88 ?_
          obtain ⟨hi, hf⟩ := fg_og_some hf
          refine va_iald hx hb hK hP 5 0 rfl rfl (ix_in hi) d_M_measure_89 ?_
          refine lv_if_ge (tgt := 119) hx hb d_M_measure_90 (by decide) (fun hc => ?_) (fun hc => ?_)
          · rw [if_pos hc] at hf
            refine lv_iconst (v := 0) hx hb d_M_measure_119 (by decide) ?_
            refine lv_istore (lv' := [(6, .int 0), (0, .ref (ad 0)), (2, .int x2), (3, .int x3), (4, .int x4), (5, .int x5)]) hx hb d_M_measure_120 hl (by decide) rfl (fun ls hl => ?_)
            refine lv_iload hx hb d_M_measure_122 (lv_at hl 0 rfl) ?_
            refine lv_if_eq (tgt := 145) hx hb d_M_measure_124 (by decide) (fun hc => ?_) (fun hc => ?_)
            · refine lv_iinc (v := x5 + 1) (lv' := [(5, .int (x5 + 1)), (6, .int 0), (0, .ref (ad 0)), (2, .int x2), (3, .int x3), (4, .int x4)]) hx hb d_M_measure_145 hl (k := 5) rfl rfl (by decide) rfl (fun ls hl => ?_)
              refine lv_goto (tgt := 42) hx hb d_M_measure_148 (by decide) ?_
              exact ih x3 (x5 + 1) F _ hf _ _ _ hP hD hS (lv_sub hl [2, 3, 4, 5, 0] rfl) hk
            · exact absurd hc (by decide)
          · rw [if_neg hc] at hf
            refine lv_aload_n hx hb d_M_measure_93 rfl (lv_at hl 0 rfl) ?_
            refine va_get (D := (dC, dI)) (ci := 1) (v := .ref (ad 1)) (C := R_M) (T := F_M) (N := 9) hx hb hts i_M hown hK hP 0 rfl rfl 2 (by decide) (hts _ fl_M_7) (fun _ h9 => h9) rfl d_M_measure_94 ?_
            refine lv_iload hx hb d_M_measure_97 (lv_at hl 4 rfl) ?_
            obtain ⟨hi, hf⟩ := fg_og_some hf
            refine va_iald hx hb hK hP 1 0 rfl rfl (ix_in hi) d_M_measure_99 ?_
            refine lv_iload_n hx hb d_M_measure_100 rfl (lv_at hl 1 rfl) ?_
            refine lv_icmp_eq (tgt := 119) hx hb d_M_measure_101 (by decide) (fun hc => ?_) (fun hc => ?_)
            · rw [if_pos hc] at hf
              refine lv_iconst (v := 0) hx hb d_M_measure_119 (by decide) ?_
              refine lv_istore (lv' := [(6, .int 0), (0, .ref (ad 0)), (2, .int x2), (3, .int x3), (4, .int x4), (5, .int x5)]) hx hb d_M_measure_120 hl (by decide) rfl (fun ls hl => ?_)
              refine lv_iload hx hb d_M_measure_122 (lv_at hl 0 rfl) ?_
              refine lv_if_eq (tgt := 145) hx hb d_M_measure_124 (by decide) (fun hc => ?_) (fun hc => ?_)
              · refine lv_iinc (v := x5 + 1) (lv' := [(5, .int (x5 + 1)), (6, .int 0), (0, .ref (ad 0)), (2, .int x2), (3, .int x3), (4, .int x4)]) hx hb d_M_measure_145 hl (k := 5) rfl rfl (by decide) rfl (fun ls hl => ?_)
                refine lv_goto (tgt := 42) hx hb d_M_measure_148 (by decide) ?_
                exact ih x3 (x5 + 1) F _ hf _ _ _ hP hD hS (lv_sub hl [2, 3, 4, 5, 0] rfl) hk
              · exact absurd hc (by decide)
            · rw [if_neg hc] at hf
              refine lv_aload_n hx hb d_M_measure_104 rfl (lv_at hl 0 rfl) ?_
              refine va_get (D := (dC, dI)) (ci := 1) (v := .ref (ad 2)) (C := R_M) (T := F_M) (N := 9) hx hb hts i_M hown hK hP 0 rfl rfl 3 (by decide) (hts _ fl_M_13) (fun _ h9 => h9) rfl d_M_measure_105 ?_
              refine lv_iload hx hb d_M_measure_108 (lv_at hl 4 rfl) ?_
              obtain ⟨hi, hf⟩ := fg_og_some hf
              refine va_iald hx hb hK hP 2 0 rfl rfl (ix_in hi) d_M_measure_110 ?_
              refine lv_iload_n hx hb d_M_measure_111 rfl (lv_at hl 1 rfl) ?_
              refine lv_icmp_eq (tgt := 119) hx hb d_M_measure_112 (by decide) (fun hc => ?_) (fun hc => ?_)
              · rw [if_pos hc] at hf
                refine lv_iconst (v := 0) hx hb d_M_measure_119 (by decide) ?_
                refine lv_istore (lv' := [(6, .int 0), (0, .ref (ad 0)), (2, .int x2), (3, .int x3), (4, .int x4), (5, .int x5)]) hx hb d_M_measure_120 hl (by decide) rfl (fun ls hl => ?_)
                refine lv_iload hx hb d_M_measure_122 (lv_at hl 0 rfl) ?_
                refine lv_if_eq (tgt := 145) hx hb d_M_measure_124 (by decide) (fun hc => ?_) (fun hc => ?_)
                · refine lv_iinc (v := x5 + 1) (lv' := [(5, .int (x5 + 1)), (6, .int 0), (0, .ref (ad 0)), (2, .int x2), (3, .int x3), (4, .int x4)]) hx hb d_M_measure_145 hl (k := 5) rfl rfl (by decide) rfl (fun ls hl => ?_)
                  refine lv_goto (tgt := 42) hx hb d_M_measure_148 (by decide) ?_
                  exact ih x3 (x5 + 1) F _ hf _ _ _ hP hD hS (lv_sub hl [2, 3, 4, 5, 0] rfl) hk
                · exact absurd hc (by decide)
              · rw [if_neg hc] at hf
                refine lv_iconst (v := 1) hx hb d_M_measure_115 (by decide) ?_
                refine lv_goto (tgt := 120) hx hb d_M_measure_116 (by decide) ?_
                refine lv_istore (lv' := [(6, .int 1), (0, .ref (ad 0)), (2, .int x2), (3, .int x3), (4, .int x4), (5, .int x5)]) hx hb d_M_measure_120 hl (by decide) rfl (fun ls hl => ?_)
                refine lv_iload hx hb d_M_measure_122 (lv_at hl 0 rfl) ?_
                refine lv_if_eq (tgt := 145) hx hb d_M_measure_124 (by decide) (fun hc => ?_) (fun hc => ?_)
                · exact absurd hc (by decide)
                · refine lv_aload_n hx hb d_M_measure_127 rfl (lv_at hl 1 rfl) ?_
                  refine va_get (D := (dC, dI)) (ci := 1) (v := .ref (ad 5)) (C := R_M) (T := F_M) (N := 9) hx hb hts i_M hown hK hP 0 rfl rfl 6 (by decide) (hts _ fl_M_23) (fun _ h9 => h9) rfl d_M_measure_128 ?_
                  refine lv_aload_n hx hb d_M_measure_131 rfl (lv_at hl 1 rfl) ?_
                  refine va_get (D := (dC, dI)) (ci := 1) (v := .ref (ad 1)) (C := R_M) (T := F_M) (N := 9) hx hb hts i_M hown hK hP 0 rfl rfl 2 (by decide) (hts _ fl_M_7) (fun _ h9 => h9) rfl d_M_measure_132 ?_
                  refine lv_iload hx hb d_M_measure_135 (lv_at hl 5 rfl) ?_
                  obtain ⟨hi, hf⟩ := fg_og_some hf
                  refine va_iald hx hb hK hP 1 0 rfl rfl (ix_in hi) d_M_measure_137 ?_
                  refine lv_iload hx hb d_M_measure_138 (lv_at hl 4 rfl) ?_
                  refine lv_iconst (v := 1) hx hb d_M_measure_140 (by decide) ?_
                  refine lv_iadd hx hb d_M_measure_141 ?_
                  obtain ⟨hi, hf⟩ := fg_og_some hf
                  refine va_iast hx hb hK hP hD hS 5 0 rfl rfl (ix_in hi) d_M_measure_142 (fun H locs hP hD hS => ?_)
                  have hP : va_P (dC, dI) classes (mW cI cZ ad t n B E C O (upd F (B x5.toNatClampNeg).toNatClampNeg (x4 + 1)) L V) H := hP
                  have hD : va_D A (mW cI cZ ad t n B E C O (upd F (B x5.toNatClampNeg).toNatClampNeg (x4 + 1)) L V) := hD
                  refine lv_iconst (v := 1) hx hb d_M_measure_143 (by decide) ?_
                  refine lv_istore_n (lv' := [(3, .int 1), (6, .int 1), (0, .ref (ad 0)), (2, .int x2), (4, .int x4), (5, .int x5)]) hx hb d_M_measure_144 rfl hl (by decide) rfl (fun ls hl => ?_)
                  refine lv_iinc (v := x5 + 1) (lv' := [(5, .int (x5 + 1)), (3, .int 1), (6, .int 1), (0, .ref (ad 0)), (2, .int x2), (4, .int x4)]) hx hb d_M_measure_145 hl (k := 5) rfl rfl (by decide) rfl (fun ls hl => ?_)
                  refine lv_goto (tgt := 42) hx hb d_M_measure_148 (by decide) ?_
                  exact ih 1 (x5 + 1) (upd F (B x5.toNatClampNeg).toNatClampNeg (x4 + 1)) _ hf _ _ _ hP hD hS (lv_sub hl [3, 4, 1, 5, 0] rfl) hk
set_option maxHeartbeats 4000000 in
set_option maxRecDepth 100000 in
theorem w_M_measure_33 {p : Program} {l : Launch} {e : Env} {s : State} {m : MethodId} {args : Array Value} {below : List Frame} {meth : Method} {c : Code} {Q : State → Prop} {A : Nat → Prop} {dC : Nat → ClassId} {dI : Nat → Nat → Nat} {cI cZ : ClassId} {ad : Nat → Nat} (hx : p.tables.exec = Jvm.exec) (hb : c.code = b_M_measure) (hml : c.maxLocals = 7) (hown : s.vm.findClass R_M = some m.cls) (hts : ∀ w ∈ gw, w.before args s = true) (hK : va_K (dC, dI) classes (gT cI cZ) s) (hA : ∀ q : Nat, s.heap.size ≤ q → A q) (x2 : Int32) (t : Int32) (n : Int32) (B : fg_A) (E : fg_A) (C : fg_A) (O : fg_A) (L : fg_A) (V : fg_A) :
    ∀ (k : Nat) (x3 : Int32) (x4 : Int32) (F : fg_A) (o : fg_A), f_M_measure_33 n B E O x2 k x3 x4 F = some o → ∀ (H : Heap) (locs : List Loc) (ls : Array Slot), va_P (dC, dI) classes (mW cI cZ ad t n B E C O F L V) H → va_D A (mW cI cZ ad t n B E C O F L V) → va_S A s.heap H locs → lv_has ls 7 [(0, .ref (ad 0)), (2, .int x2), (3, .int x3), (4, .int x4)] →
    (∀ (H : Heap) (locs : List Loc) (ls : Array Slot), va_P (dC, dI) classes (mW cI cZ ad t n B E C O o L V) H → va_D A (mW cI cZ ad t n B E C O o L V) → va_S A s.heap H locs → lv_has ls 7 [] → W p l e (headSpec w_M_measure rm_M_measure).room s m args below meth c H locs 0 0 Q (F0 m 157 ls [])) → W p l e (headSpec w_M_measure rm_M_measure).room s m args below meth c H locs 0 0 Q (F0 m 33 ls []) := by
  intro k
  induction k with
  | zero =>
    intro x3 x4 F o hf
    exact absurd (show none = some o from hf) (by simp)
  | succ k ih =>
    intro x3 x4 F o hf H locs ls hP hD hS hl hk
    rw [f_M_measure_33] at hf
    refine lv_iload_n hx hb d_M_measure_33 rfl (lv_at hl 2 rfl) ?_
    refine lv_if_eq (tgt := 157) hx hb d_M_measure_34 (by decide) (fun hc => ?_) (fun hc => ?_)
    · rw [if_pos hc] at hf
      cases hf
      exact hk _ _ _ hP hD hS (lv_sub hl [] rfl)
    · rw [if_neg hc] at hf
      refine lv_iconst (v := 0) hx hb d_M_measure_37 (by decide) ?_
      refine lv_istore_n (lv' := [(3, .int 0), (0, .ref (ad 0)), (2, .int x2), (4, .int x4)]) hx hb d_M_measure_38 rfl hl (by decide) rfl (fun ls hl => ?_)
      refine lv_iconst (v := 0) hx hb d_M_measure_39 (by decide) ?_
      refine lv_istore (lv' := [(5, .int 0), (3, .int 0), (0, .ref (ad 0)), (2, .int x2), (4, .int x4)]) hx hb d_M_measure_40 hl (by decide) rfl (fun ls hl => ?_)
      obtain ⟨o1, hco1, hf⟩ := fg_ob_some hf
      refine w_M_measure_42 hx hb hml hown hts hK hA x2 x4 t n B E C O L V fu 0 0 F o1 hco1 _ _ _ hP hD hS (lv_sub hl [2, 3, 1, 4, 0] rfl) (fun H locs ls hP hD hS hl => ?_)
      refine lv_iinc (v := x4 + 1) (lv' := [(4, .int (x4 + 1)), (0, .ref (ad 0)), (2, .int x2), (3, .int o1.1)]) hx hb d_M_measure_151 hl (k := 3) rfl rfl (by decide) rfl (fun ls hl => ?_)
      refine lv_goto (tgt := 33) hx hb d_M_measure_154 (by decide) ?_
      exact ih o1.1 (x4 + 1) o1.2 _ hf _ _ _ hP hD hS (lv_sub hl [1, 2, 3, 0] rfl) hk
set_option maxHeartbeats 4000000 in
set_option maxRecDepth 100000 in
theorem c_M_measure (l : Launch) (dC : Nat → ClassId) (dI : Nat → Nat → Nat) (cI cZ : ClassId) (ad : Nat → Nat) (sz : Nat) (t : Int32) (n : Int32) (B : fg_A) (E : fg_A) (C : fg_A) (O : fg_A) (F : fg_A) (L : fg_A) (V : fg_A) (p0 : Int32) (p1 : Int32) (o : fg_A) (hf : f_M_measure n B E O F p0 p1 = some o) : Met l y_M_measure w_M_measure rm_M_measure (mW_Pc dC dI cI cZ ad sz t n B E C O F L V [.ref (ad 0), .int p0, .int p1]) (mW_Qv dC dI cI cZ ad (va_A (mW cI cZ ad t n B E C O F L V) sz) t n B E C O o L V) 0 0 (va_A (mW cI cZ ad t n B E C O F L V) sz) := by
  refine Met.ofW (cc := b_M_measure) (maxL := 7) (ret := none) (by decide) rfl ?_
  intro p e s m args below meth c s₁ Bd hml hv
  obtain ⟨rfl, hsz, hP, hK, hD0⟩ := hv
  have hx := Bd.exec
  have hb := Bd.bytes
  have hr := Bd.returns
  have hts := fun w h => atoms_spec (ws := w_M_measure) Bd.pre w (List.mem_cons_of_mem _ h)
  have hown : s.vm.findClass R_M = some m.cls := findClass_of_methodNamed Bd.named
  have hlocks := Bd.notSynchronized
  subst hsz
  have hD := hD0.self (sz := s.heap.size)
  generalize hAe : va_A (mW cI cZ ad t n B E C O F L V) s.heap.size = A at hD ⊢
  have hA : ∀ q : Nat, s.heap.size ≤ q → A q := fun q h => by rw [← hAe]; exact Or.inr h
  have hS : va_S A s.heap s.heap [] := va_S.rf
  have hl := lv_entry ([.ref (ad 0), .int p0, .int p1]) (n := 7) (Nat.le_of_ble_eq_true rfl)
  rw [lg_entry_eq]
  generalize (lg_sl ([.ref (ad 0), .int p0, .int p1]) ++ List.replicate (7 - (lg_sl ([.ref (ad 0), .int p0, .int p1])).length) Slot.unset).toArray = ls at hl ⊢
  have hl : lv_has ls 7 [(0, .ref (ad 0)), (1, .int p0), (2, .int p1)] := hl
  have hE : ∀ (pc : Nat) (H : Heap) (locs : List Loc) (ls : Array Slot), va_P (dC, dI) classes (mW cI cZ ad t n B E C O o L V) H → va_D A (mW cI cZ ad t n B E C O o L V) → va_S A s.heap H locs → decode b_M_measure pc = .ok (.return_, 1) → W p l e (headSpec w_M_measure rm_M_measure).room s m ([.ref (ad 0), .int p0, .int p1] : List Value).toArray below meth c H locs 0 0 (MQ below (mW_Qv dC dI cI cZ ad A t n B E C O o L V) ([.ref (ad 0), .int p0, .int p1] : List Value).toArray s 0 0 A) (F0 m pc ls []) := fun pc H locs ls hP hD hS hd => W.vret hx hb hr (fun t ht hW => ⟨⟨(), rfl, trivial, by rw [ht]; exact hP, va_K.moved hW.alike hK, hD⟩, hS.F ht⟩) hS.2.2 hd
  unfold f_M_measure at hf
  refine lv_iconst (v := 0) hx hb d_M_measure_0 (by decide) ?_
  refine lv_istore_n (lv' := [(3, .int 0), (0, .ref (ad 0)), (1, .int p0), (2, .int p1)]) hx hb d_M_measure_1 rfl hl (by decide) rfl (fun ls hl => ?_)
  obtain ⟨o1, hco1, hf⟩ := fg_ob_some hf
  refine w_M_measure_2 hx hb hml hown hts hK hA p0 p1 t n B E C O L V fu 0 F o1 hco1 _ _ _ hP hD hS (lv_sub hl [1, 2, 3, 0] rfl) (fun H locs ls hP hD hS hl => ?_)
  refine lv_aload_n hx hb d_M_measure_21 rfl (lv_at hl 0 rfl) ?_
  refine va_get (D := (dC, dI)) (ci := 1) (v := .ref (ad 5)) (C := R_M) (T := F_M) (N := 9) hx hb hts i_M hown hK hP 0 rfl rfl 6 (by decide) (hts _ fl_M_23) (fun _ h9 => h9) rfl d_M_measure_22 ?_
  refine lv_iload_n hx hb d_M_measure_25 rfl (lv_at hl 1 rfl) ?_
  refine lv_iconst (v := 0) hx hb d_M_measure_26 (by decide) ?_
  obtain ⟨hi, hf⟩ := fg_og_some hf
  refine va_iast hx hb hK hP hD hS 5 0 rfl rfl (ix_in hi) d_M_measure_27 (fun H locs hP hD hS => ?_)
  have hP : va_P (dC, dI) classes (mW cI cZ ad t n B E C O (upd o1 p0.toNatClampNeg 0) L V) H := hP
  have hD : va_D A (mW cI cZ ad t n B E C O (upd o1 p0.toNatClampNeg 0) L V) := hD
  refine lv_iconst (v := 1) hx hb d_M_measure_28 (by decide) ?_
  refine lv_istore_n (lv' := [(3, .int 1), (0, .ref (ad 0)), (1, .int p0), (2, .int p1)]) hx hb d_M_measure_29 rfl hl (by decide) rfl (fun ls hl => ?_)
  refine lv_iconst (v := 0) hx hb d_M_measure_30 (by decide) ?_
  refine lv_istore (lv' := [(4, .int 0), (3, .int 1), (0, .ref (ad 0)), (1, .int p0), (2, .int p1)]) hx hb d_M_measure_31 hl (by decide) rfl (fun ls hl => ?_)
  obtain ⟨o2, hco2, hf⟩ := fg_ob_some hf
  refine w_M_measure_33 hx hb hml hown hts hK hA p1 t n B E C O L V fu 1 0 (upd o1 p0.toNatClampNeg 0) o2 hco2 _ _ _ hP hD hS (lv_sub hl [2, 4, 1, 0] rfl) (fun H locs ls hP hD hS hl => ?_)
  cases hf
  exact hE _ _ _ _ hP hD hS d_M_measure_157
