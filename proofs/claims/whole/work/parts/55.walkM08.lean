set_option maxHeartbeats 4000000 in
set_option maxRecDepth 100000 in
theorem w_M_circles_9 {p : Program} {l : Launch} {e : Env} {s : State} {m : MethodId} {args : Array Value} {below : List Frame} {meth : Method} {c : Code} {Q : State → Prop} {A : Nat → Prop} {dC : Nat → ClassId} {dI : Nat → Nat → Nat} {cI cZ : ClassId} {ad : Nat → Nat} (hx : p.tables.exec = Jvm.exec) (hb : c.code = b_M_circles) (hml : c.maxLocals = 3) (hown : s.vm.findClass R_M = some m.cls) (hts : ∀ w ∈ gw, w.before args s = true) (hK : va_K (dC, dI) classes (gT cI cZ) s) (hA : ∀ q : Nat, s.heap.size ≤ q → A q) (t : Int32) (n : Int32) (B : fg_A) (E : fg_A) (C : fg_A) (O : fg_A) (L : fg_A) (V : fg_A) :
    ∀ (k : Nat) (x1 : Int32) (x2 : Int32) (F : fg_A) (o : Int32 × fg_A), f_M_circles_9 n B E O k x1 x2 F = some o → ∀ (H : Heap) (locs : List Loc) (ls : Array Slot), va_P (dC, dI) classes (mW cI cZ ad t n B E C O F L V) H → va_D A (mW cI cZ ad t n B E C O F L V) → va_S A s.heap H locs → lv_has ls 3 [(0, .ref (ad 0)), (1, .int x1), (2, .int x2)] →
    (∀ (H : Heap) (locs : List Loc) (ls : Array Slot), va_P (dC, dI) classes (mW cI cZ ad t n B E C O o.2 L V) H → va_D A (mW cI cZ ad t n B E C O o.2 L V) → va_S A s.heap H locs → lv_has ls 3 [(1, .int o.1)] → W p l e (headSpec w_M_circles rm_M_circles).room s m args below meth c H locs 0 0 Q (F0 m 43 ls [])) → W p l e (headSpec w_M_circles rm_M_circles).room s m args below meth c H locs 0 0 Q (F0 m 9 ls []) := by
  intro k
  induction k with
  | zero =>
    intro x1 x2 F o hf
    exact absurd (show none = some o from hf) (by simp)
  | succ k ih =>
    intro x1 x2 F o hf H locs ls hP hD hS hl hk
    rw [f_M_circles_9] at hf
    refine lv_iload_n hx hb d_M_circles_9 rfl (lv_at hl 2 rfl) ?_
    refine lv_bipush (v := 28) hx hb d_M_circles_10 (by decide) ?_
    refine lv_icmp_ge (tgt := 43) hx hb d_M_circles_12 (by decide) (fun hc => ?_) (fun hc => ?_)
    · rw [if_pos hc] at hf
      cases hf
      exact hk _ _ _ hP hD hS (lv_sub hl [1] rfl)
    · rw [if_neg hc] at hf
      refine lv_aload_n hx hb d_M_circles_15 rfl (lv_at hl 0 rfl) ?_
      refine lv_iload_n hx hb d_M_circles_16 rfl (lv_at hl 2 rfl) ?_
      obtain ⟨o1, hco1, hf⟩ := fg_ob_some hf
      refine fgM_i (va_runV (As := [.int x2]) (rest := []) ⟨hx, hb, hml, hown, hts⟩ (c_M_circleOf l dC dI cI cZ ad _ t n B E C O F L V x2 o1 hco1) (cwV 1 hts gv_M_59 rfl rfl rfl (by decide +kernel) ⟨Nat.le_of_ble_eq_true rfl, Nat.le_of_ble_eq_true rfl⟩) (mW_pre hK hP hD) rfl rfl hl.1 rfl (lv_room (Nat.le_of_ble_eq_true rfl)) d_M_circles_17 ⟨Nat.le_of_ble_eq_true rfl, Nat.le_of_ble_eq_true rfl⟩) hP hD hS hA (fun H locs hP hD hS => ?_)
      refine lv_iconst (v := 1) hx hb d_M_circles_20 (by decide) ?_
      refine lv_iload_n hx hb d_M_circles_21 rfl (lv_at hl 2 rfl) ?_
      refine lv_ishl hx hb d_M_circles_22 ?_
      refine lv_iconst (v := 1) hx hb d_M_circles_23 (by decide) ?_
      refine lv_isub hx hb d_M_circles_24 ?_
      refine lv_iand hx hb d_M_circles_25 ?_
      refine lv_if_ne (tgt := 35) hx hb d_M_circles_26 (by decide) (fun hc => ?_) (fun hc => ?_)
      · rw [if_neg hc] at hf
        refine lv_iload_n hx hb d_M_circles_35 rfl (lv_at hl 1 rfl) ?_
        refine lv_istore_n (lv' := [(1, .int x1), (0, .ref (ad 0)), (2, .int x2)]) hx hb d_M_circles_36 rfl hl (by decide) rfl (fun ls hl => ?_)
        refine lv_iinc (v := x2 + 1) (lv' := [(2, .int (x2 + 1)), (1, .int x1), (0, .ref (ad 0))]) hx hb d_M_circles_37 hl (k := 2) rfl rfl (by decide) rfl (fun ls hl => ?_)
        refine lv_goto (tgt := 9) hx hb d_M_circles_40 (by decide) ?_
        exact ih x1 (x2 + 1) o1.2 _ hf _ _ _ hP hD hS (lv_sub hl [2, 1, 0] rfl) hk
      · rw [if_pos hc] at hf
        refine lv_iload_n hx hb d_M_circles_29 rfl (lv_at hl 1 rfl) ?_
        refine lv_iconst (v := 1) hx hb d_M_circles_30 (by decide) ?_
        refine lv_iadd hx hb d_M_circles_31 ?_
        refine lv_goto (tgt := 36) hx hb d_M_circles_32 (by decide) ?_
        refine lv_istore_n (lv' := [(1, .int (x1 + 1)), (0, .ref (ad 0)), (2, .int x2)]) hx hb d_M_circles_36 rfl hl (by decide) rfl (fun ls hl => ?_)
        refine lv_iinc (v := x2 + 1) (lv' := [(2, .int (x2 + 1)), (1, .int (x1 + 1)), (0, .ref (ad 0))]) hx hb d_M_circles_37 hl (k := 2) rfl rfl (by decide) rfl (fun ls hl => ?_)
        refine lv_goto (tgt := 9) hx hb d_M_circles_40 (by decide) ?_
        exact ih (x1 + 1) (x2 + 1) o1.2 _ hf _ _ _ hP hD hS (lv_sub hl [2, 1, 0] rfl) hk
set_option maxHeartbeats 4000000 in
set_option maxRecDepth 100000 in
theorem c_M_circles (l : Launch) (dC : Nat → ClassId) (dI : Nat → Nat → Nat) (cI cZ : ClassId) (ad : Nat → Nat) (sz : Nat) (t : Int32) (n : Int32) (B : fg_A) (E : fg_A) (C : fg_A) (O : fg_A) (F : fg_A) (L : fg_A) (V : fg_A) (o : Int32 × Int32 × fg_A) (hf : f_M_circles t n B E O F = some o) : Met l y_M_circles w_M_circles rm_M_circles (mW_Pc dC dI cI cZ ad sz t n B E C O F L V [.ref (ad 0)]) (mW_Qi dC dI cI cZ ad (va_A (mW cI cZ ad t n B E C O F L V) sz) o.2.1 n B E C O o.2.2 L V o.1) 0 0 (va_A (mW cI cZ ad t n B E C O F L V) sz) := by
  refine Met.ofW (cc := b_M_circles) (maxL := 3) (ret := (some .int)) (by decide) rfl ?_
  intro p e s m args below meth c s₁ Bd hml hv
  obtain ⟨rfl, hsz, hP, hK, hD0⟩ := hv
  have hx := Bd.exec
  have hb := Bd.bytes
  have hr := Bd.returns
  have hts := fun w h => atoms_spec (ws := w_M_circles) Bd.pre w (List.mem_cons_of_mem _ h)
  have hown : s.vm.findClass R_M = some m.cls := findClass_of_methodNamed Bd.named
  have hlocks := Bd.notSynchronized
  subst hsz
  have hD := hD0.self (sz := s.heap.size)
  generalize hAe : va_A (mW cI cZ ad t n B E C O F L V) s.heap.size = A at hD ⊢
  have hA : ∀ q : Nat, s.heap.size ≤ q → A q := fun q h => by rw [← hAe]; exact Or.inr h
  have hS : va_S A s.heap s.heap [] := va_S.rf
  have hl := lv_entry ([.ref (ad 0)]) (n := 3) (Nat.le_of_ble_eq_true rfl)
  rw [lg_entry_eq]
  generalize (lg_sl ([.ref (ad 0)]) ++ List.replicate (3 - (lg_sl ([.ref (ad 0)])).length) Slot.unset).toArray = ls at hl ⊢
  have hl : lv_has ls 3 [(0, .ref (ad 0))] := hl
  have hE : ∀ (pc : Nat) (H : Heap) (locs : List Loc) (ls : Array Slot), va_P (dC, dI) classes (mW cI cZ ad o.2.1 n B E C O o.2.2 L V) H → va_D A (mW cI cZ ad o.2.1 n B E C O o.2.2 L V) → va_S A s.heap H locs → decode b_M_circles pc = .ok (.ireturn, 1) → W p l e (headSpec w_M_circles rm_M_circles).room s m ([.ref (ad 0)] : List Value).toArray below meth c H locs 0 0 (MQ below (mW_Qi dC dI cI cZ ad A o.2.1 n B E C O o.2.2 L V o.1) ([.ref (ad 0)] : List Value).toArray s 0 0 A) (F0 m pc ls [.int o.1]) := fun pc H locs ls hP hD hS hd => W.iret (v := o.1) hx hb hr (fun t ht hW => ⟨⟨o.1, (), rfl, rfl, by rw [ht]; exact hP, va_K.moved hW.alike hK, hD⟩, hS.F ht⟩) hS.2.2 hd
  unfold f_M_circles at hf
  refine lv_aload_n hx hb d_M_circles_0 rfl (lv_at hl 0 rfl) ?_
  refine lv_iconst (v := 0) hx hb d_M_circles_1 (by decide) ?_
  refine va_put (D := (dC, dI)) (ci := 1) (v := .int 0) (ty := .int) (C := R_M) (T := F_M) (N := 9) hx hb hts i_M t_M t_M_ok n_M hown hK hP hD hS 0 rfl rfl 0 (by decide) (hts _ fl_M_32) (fun _ h9 => h9) rfl (by decide +kernel) rfl rfl (Nat.le_of_ble_eq_true rfl) d_M_circles_2 (fun H locs hP hD hS => ?_)
  have hP : va_P (dC, dI) classes (mW cI cZ ad 0 n B E C O F L V) H := hP
  have hD : va_D A (mW cI cZ ad 0 n B E C O F L V) := hD
  refine lv_iconst (v := 0) hx hb d_M_circles_5 (by decide) ?_
  refine lv_istore_n (lv' := [(1, .int 0), (0, .ref (ad 0))]) hx hb d_M_circles_6 rfl hl (by decide) rfl (fun ls hl => ?_)
  refine lv_iconst (v := 0) hx hb d_M_circles_7 (by decide) ?_
  refine lv_istore_n (lv' := [(2, .int 0), (1, .int 0), (0, .ref (ad 0))]) hx hb d_M_circles_8 rfl hl (by decide) rfl (fun ls hl => ?_)
  obtain ⟨o1, hco1, hf⟩ := fg_ob_some hf
  refine w_M_circles_9 hx hb hml hown hts hK hA 0 n B E C O L V fu 0 0 F o1 hco1 _ _ _ hP hD hS (lv_sub hl [2, 1, 0] rfl) (fun H locs ls hP hD hS hl => ?_)
  refine lv_iload_n hx hb d_M_circles_43 rfl (lv_at hl 0 rfl) ?_
  cases hf
  exact hE _ _ _ _ hP hD hS d_M_circles_44
set_option maxHeartbeats 4000000 in
set_option maxRecDepth 100000 in
theorem c_M_cut (l : Launch) (dC : Nat → ClassId) (dI : Nat → Nat → Nat) (cI cZ : ClassId) (ad : Nat → Nat) (sz : Nat) (t : Int32) (n : Int32) (B : fg_A) (E : fg_A) (C : fg_A) (O : fg_A) (F : fg_A) (L : fg_A) (V : fg_A) (p0 : Int32) (p1 : Int32) (o : Int32 × Int32 × fg_A × fg_A) (hf : f_M_cut t n B E C O L V p0 p1 = some o) : Met l y_M_cut w_M_cut rm_M_cut (mW_Pc dC dI cI cZ ad sz t n B E C O F L V [.ref (ad 0), .int p0, .int p1]) (mW_Qi dC dI cI cZ ad (va_A (mW cI cZ ad t n B E C O F L V) sz) o.2.1 n B E C O F o.2.2.1 o.2.2.2 o.1) 0 0 (va_A (mW cI cZ ad t n B E C O F L V) sz) := by
  refine Met.ofW (cc := b_M_cut) (maxL := 3) (ret := (some .int)) (by decide) rfl ?_
  intro p e s m args below meth c s₁ Bd hml hv
  obtain ⟨rfl, hsz, hP, hK, hD0⟩ := hv
  have hx := Bd.exec
  have hb := Bd.bytes
  have hr := Bd.returns
  have hts := fun w h => atoms_spec (ws := w_M_cut) Bd.pre w (List.mem_cons_of_mem _ h)
  have hown : s.vm.findClass R_M = some m.cls := findClass_of_methodNamed Bd.named
  have hlocks := Bd.notSynchronized
  subst hsz
  have hD := hD0.self (sz := s.heap.size)
  generalize hAe : va_A (mW cI cZ ad t n B E C O F L V) s.heap.size = A at hD ⊢
  have hA : ∀ q : Nat, s.heap.size ≤ q → A q := fun q h => by rw [← hAe]; exact Or.inr h
  have hS : va_S A s.heap s.heap [] := va_S.rf
  have hl := lv_entry ([.ref (ad 0), .int p0, .int p1]) (n := 3) (Nat.le_of_ble_eq_true rfl)
  rw [lg_entry_eq]
  generalize (lg_sl ([.ref (ad 0), .int p0, .int p1]) ++ List.replicate (3 - (lg_sl ([.ref (ad 0), .int p0, .int p1])).length) Slot.unset).toArray = ls at hl ⊢
  have hl : lv_has ls 3 [(0, .ref (ad 0)), (1, .int p0), (2, .int p1)] := hl
  have hE : ∀ (pc : Nat) (H : Heap) (locs : List Loc) (ls : Array Slot), va_P (dC, dI) classes (mW cI cZ ad o.2.1 n B E C O F o.2.2.1 o.2.2.2) H → va_D A (mW cI cZ ad o.2.1 n B E C O F o.2.2.1 o.2.2.2) → va_S A s.heap H locs → decode b_M_cut pc = .ok (.ireturn, 1) → W p l e (headSpec w_M_cut rm_M_cut).room s m ([.ref (ad 0), .int p0, .int p1] : List Value).toArray below meth c H locs 0 0 (MQ below (mW_Qi dC dI cI cZ ad A o.2.1 n B E C O F o.2.2.1 o.2.2.2 o.1) ([.ref (ad 0), .int p0, .int p1] : List Value).toArray s 0 0 A) (F0 m pc ls [.int o.1]) := fun pc H locs ls hP hD hS hd => W.iret (v := o.1) hx hb hr (fun t ht hW => ⟨⟨o.1, (), rfl, rfl, by rw [ht]; exact hP, va_K.moved hW.alike hK, hD⟩, hS.F ht⟩) hS.2.2 hd
  unfold f_M_cut at hf
  refine lv_aload_n hx hb d_M_cut_0 rfl (lv_at hl 0 rfl) ?_
  refine lv_iload_n hx hb d_M_cut_1 rfl (lv_at hl 1 rfl) ?_
  refine lv_iload_n hx hb d_M_cut_2 rfl (lv_at hl 2 rfl) ?_
  obtain ⟨o1, hco1, hf⟩ := fg_ob_some hf
  refine fg_r0 (W.runS (As := [.int p0, .int p1]) (rest := [.ref (ad 0)]) ⟨hx, hb, hml, hown, hts⟩ (c_M_areUnlike l p0 p1 o1 hco1) (cwS 2 hts gs_M_69 rfl rfl rfl (by decide +kernel) ⟨Nat.le_of_ble_eq_true rfl, Nat.le_of_ble_eq_true rfl⟩) preEq rfl rfl hl.1 rfl (lv_room (Nat.le_of_ble_eq_true rfl)) d_M_cut_3 ⟨Nat.le_of_ble_eq_true rfl, Nat.le_of_ble_eq_true rfl⟩) ?_
  refine lv_if_ne (tgt := 13) hx hb d_M_cut_6 (by decide) (fun hc => ?_) (fun hc => ?_)
  · rw [if_neg hc] at hf
    refine lv_iconst (v := 0) hx hb d_M_cut_13 (by decide) ?_
    refine lv_iconst (v := 0) hx hb d_M_cut_14 (by decide) ?_
    obtain ⟨o2, hco2, hf⟩ := fg_ob_some hf
    refine fgM_i (va_runV (As := [.int 0, .int 0]) (rest := []) ⟨hx, hb, hml, hown, hts⟩ (c_M_refuse l dC dI cI cZ ad _ t n B E C O F L V 0 0 o2 hco2) (cwV 2 hts gv_M_47 rfl rfl rfl (by decide +kernel) ⟨Nat.le_of_ble_eq_true rfl, Nat.le_of_ble_eq_true rfl⟩) (mW_pre hK hP hD) rfl rfl hl.1 rfl (lv_room (Nat.le_of_ble_eq_true rfl)) d_M_cut_15 ⟨Nat.le_of_ble_eq_true rfl, Nat.le_of_ble_eq_true rfl⟩) hP hD hS hA (fun H locs hP hD hS => ?_)
    refine lv_if_eq (tgt := 25) hx hb d_M_cut_18 (by decide) (fun hc => ?_) (fun hc => ?_)
    · rw [if_pos hc] at hf
      refine lv_aload_n hx hb d_M_cut_25 rfl (lv_at hl 0 rfl) ?_
      refine lv_iload_n hx hb d_M_cut_26 rfl (lv_at hl 1 rfl) ?_
      refine lv_iload_n hx hb d_M_cut_27 rfl (lv_at hl 2 rfl) ?_
      obtain ⟨o3, hco3, hf⟩ := fg_ob_some hf
      refine fgM_i (va_runV (As := [.int p0, .int p1]) (rest := []) ⟨hx, hb, hml, hown, hts⟩ (c_M_flow l dC dI cI cZ ad _ o2.2 n B E C O F L V p0 p1 o3 hco3) (cwV 2 hts gv_M_73 rfl rfl rfl (by decide +kernel) ⟨Nat.le_of_ble_eq_true rfl, Nat.le_of_ble_eq_true rfl⟩) (mW_pre hK hP hD) rfl rfl hl.1 rfl (lv_room (Nat.le_of_ble_eq_true rfl)) d_M_cut_28 ⟨Nat.le_of_ble_eq_true rfl, Nat.le_of_ble_eq_true rfl⟩) hP hD hS hA (fun H locs hP hD hS => ?_)
      cases hf
      exact hE _ _ _ _ hP hD hS d_M_cut_31
    · rw [if_neg hc] at hf
      refine lv_iconst (v := 0) hx hb d_M_cut_21 (by decide) ?_
      refine lv_goto (tgt := 31) hx hb d_M_cut_22 (by decide) ?_
      cases hf
      exact hE _ _ _ _ hP hD hS d_M_cut_31
  · rw [if_pos hc] at hf
    refine lv_iconst (v := 1) hx hb d_M_cut_9 (by decide) ?_
    refine lv_goto (tgt := 14) hx hb d_M_cut_10 (by decide) ?_
    refine lv_iconst (v := 0) hx hb d_M_cut_14 (by decide) ?_
    obtain ⟨o4, hco4, hf⟩ := fg_ob_some hf
    refine fgM_i (va_runV (As := [.int 1, .int 0]) (rest := []) ⟨hx, hb, hml, hown, hts⟩ (c_M_refuse l dC dI cI cZ ad _ t n B E C O F L V 1 0 o4 hco4) (cwV 2 hts gv_M_47 rfl rfl rfl (by decide +kernel) ⟨Nat.le_of_ble_eq_true rfl, Nat.le_of_ble_eq_true rfl⟩) (mW_pre hK hP hD) rfl rfl hl.1 rfl (lv_room (Nat.le_of_ble_eq_true rfl)) d_M_cut_15 ⟨Nat.le_of_ble_eq_true rfl, Nat.le_of_ble_eq_true rfl⟩) hP hD hS hA (fun H locs hP hD hS => ?_)
    refine lv_if_eq (tgt := 25) hx hb d_M_cut_18 (by decide) (fun hc => ?_) (fun hc => ?_)
    · rw [if_pos hc] at hf
      refine lv_aload_n hx hb d_M_cut_25 rfl (lv_at hl 0 rfl) ?_
      refine lv_iload_n hx hb d_M_cut_26 rfl (lv_at hl 1 rfl) ?_
      refine lv_iload_n hx hb d_M_cut_27 rfl (lv_at hl 2 rfl) ?_
      obtain ⟨o5, hco5, hf⟩ := fg_ob_some hf
      refine fgM_i (va_runV (As := [.int p0, .int p1]) (rest := []) ⟨hx, hb, hml, hown, hts⟩ (c_M_flow l dC dI cI cZ ad _ o4.2 n B E C O F L V p0 p1 o5 hco5) (cwV 2 hts gv_M_73 rfl rfl rfl (by decide +kernel) ⟨Nat.le_of_ble_eq_true rfl, Nat.le_of_ble_eq_true rfl⟩) (mW_pre hK hP hD) rfl rfl hl.1 rfl (lv_room (Nat.le_of_ble_eq_true rfl)) d_M_cut_28 ⟨Nat.le_of_ble_eq_true rfl, Nat.le_of_ble_eq_true rfl⟩) hP hD hS hA (fun H locs hP hD hS => ?_)
      cases hf
      exact hE _ _ _ _ hP hD hS d_M_cut_31
    · rw [if_neg hc] at hf
      refine lv_iconst (v := 0) hx hb d_M_cut_21 (by decide) ?_
      refine lv_goto (tgt := 31) hx hb d_M_cut_22 (by decide) ?_
      cases hf
      exact hE _ _ _ _ hP hD hS d_M_cut_31
set_option maxHeartbeats 4000000 in
set_option maxRecDepth 100000 in
theorem w_M_left_35 {p : Program} {l : Launch} {e : Env} {s : State} {m : MethodId} {args : Array Value} {below : List Frame} {meth : Method} {c : Code} {Q : State → Prop} {A : Nat → Prop} {dC : Nat → ClassId} {dI : Nat → Nat → Nat} {cI cZ : ClassId} {ad : Nat → Nat} (hx : p.tables.exec = Jvm.exec) (hb : c.code = b_M_left) (hml : c.maxLocals = 5) (hown : s.vm.findClass R_M = some m.cls) (hts : ∀ w ∈ gw, w.before args s = true) (hK : va_K (dC, dI) classes (gT cI cZ) s) (hA : ∀ q : Nat, s.heap.size ≤ q → A q) (t : Int32) (n : Int32) (B : fg_A) (E : fg_A) (C : fg_A) (O : fg_A) (F : fg_A) (L : fg_A) (V : fg_A) :
    ∀ (k : Nat) (x3 : Int32) (x4 : Int32) (o : Int32), f_M_left_35 V k x3 x4 = some o → ∀ (H : Heap) (locs : List Loc) (ls : Array Slot), va_P (dC, dI) classes (mW cI cZ ad t n B E C O F L V) H → va_D A (mW cI cZ ad t n B E C O F L V) → va_S A s.heap H locs → lv_has ls 5 [(0, .ref (ad 0)), (3, .int x3), (4, .int x4)] →
    (∀ (H : Heap) (locs : List Loc) (ls : Array Slot), va_P (dC, dI) classes (mW cI cZ ad t n B E C O F L V) H → va_D A (mW cI cZ ad t n B E C O F L V) → va_S A s.heap H locs → lv_has ls 5 [(3, .int o)] → W p l e (headSpec w_M_left rm_M_left).room s m args below meth c H locs 0 0 Q (F0 m 69 ls [])) → W p l e (headSpec w_M_left rm_M_left).room s m args below meth c H locs 0 0 Q (F0 m 35 ls []) := by
  intro k
  induction k with
  | zero =>
    intro x3 x4 o hf
    exact absurd (show none = some o from hf) (by simp)
  | succ k ih =>
    intro x3 x4 o hf H locs ls hP hD hS hl hk
    rw [f_M_left_35] at hf
    refine lv_iload hx hb d_M_left_35 (lv_at hl 2 rfl) ?_
    refine lv_bipush (v := 28) hx hb d_M_left_37 (by decide) ?_
    refine lv_icmp_ge (tgt := 69) hx hb d_M_left_39 (by decide) (fun hc => ?_) (fun hc => ?_)
    · rw [if_pos hc] at hf
      cases hf
      exact hk _ _ _ hP hD hS (lv_sub hl [1] rfl)
    · rw [if_neg hc] at hf
      refine lv_aload_n hx hb d_M_left_42 rfl (lv_at hl 0 rfl) ?_
      refine va_get (D := (dC, dI)) (ci := 1) (v := .ref (ad 7)) (C := R_M) (T := F_M) (N := 9) hx hb hts i_M hown hK hP 0 rfl rfl 8 (by decide) (hts _ fl_M_29) (fun _ h9 => h9) rfl d_M_left_43 ?_
      refine lv_iload hx hb d_M_left_46 (lv_at hl 2 rfl) ?_
      obtain ⟨hi, hf⟩ := fg_og_some hf
      refine va_iald hx hb hK hP 7 0 rfl rfl (ix_in hi) d_M_left_48 ?_
      refine lv_if_le (tgt := 61) hx hb d_M_left_49 (by decide) (fun hc => ?_) (fun hc => ?_)
      · rw [if_pos hc] at hf
        refine lv_iload_n hx hb d_M_left_61 rfl (lv_at hl 1 rfl) ?_
        refine lv_istore_n (lv' := [(3, .int x3), (0, .ref (ad 0)), (4, .int x4)]) hx hb d_M_left_62 rfl hl (by decide) rfl (fun ls hl => ?_)
        refine lv_iinc (v := x4 + 1) (lv' := [(4, .int (x4 + 1)), (3, .int x3), (0, .ref (ad 0))]) hx hb d_M_left_63 hl (k := 2) rfl rfl (by decide) rfl (fun ls hl => ?_)
        refine lv_goto (tgt := 35) hx hb d_M_left_66 (by decide) ?_
        exact ih x3 (x4 + 1) _ hf _ _ _ hP hD hS (lv_sub hl [2, 1, 0] rfl) hk
      · rw [if_neg hc] at hf
        refine lv_iload_n hx hb d_M_left_52 rfl (lv_at hl 1 rfl) ?_
        refine lv_iconst (v := 1) hx hb d_M_left_53 (by decide) ?_
        refine lv_iload hx hb d_M_left_54 (lv_at hl 2 rfl) ?_
        refine lv_ishl hx hb d_M_left_56 ?_
        refine lv_ior hx hb d_M_left_57 ?_
        refine lv_goto (tgt := 62) hx hb d_M_left_58 (by decide) ?_
        refine lv_istore_n (lv' := [(3, .int (x3 ||| (1 <<< (x4 &&& 31)))), (0, .ref (ad 0)), (4, .int x4)]) hx hb d_M_left_62 rfl hl (by decide) rfl (fun ls hl => ?_)
        refine lv_iinc (v := x4 + 1) (lv' := [(4, .int (x4 + 1)), (3, .int (x3 ||| (1 <<< (x4 &&& 31)))), (0, .ref (ad 0))]) hx hb d_M_left_63 hl (k := 2) rfl rfl (by decide) rfl (fun ls hl => ?_)
        refine lv_goto (tgt := 35) hx hb d_M_left_66 (by decide) ?_
        exact ih (x3 ||| (1 <<< (x4 &&& 31))) (x4 + 1) _ hf _ _ _ hP hD hS (lv_sub hl [2, 1, 0] rfl) hk
set_option maxHeartbeats 4000000 in
set_option maxRecDepth 100000 in
theorem c_M_left (l : Launch) (dC : Nat → ClassId) (dI : Nat → Nat → Nat) (cI cZ : ClassId) (ad : Nat → Nat) (sz : Nat) (t : Int32) (n : Int32) (B : fg_A) (E : fg_A) (C : fg_A) (O : fg_A) (F : fg_A) (L : fg_A) (V : fg_A) (p0 : Int32) (p1 : Int32) (o : Int32 × Int32 × fg_A × fg_A) (hf : f_M_left t n B E C O L V p0 p1 = some o) : Met l y_M_left w_M_left rm_M_left (mW_Pc dC dI cI cZ ad sz t n B E C O F L V [.ref (ad 0), .int p0, .int p1]) (mW_Qi dC dI cI cZ ad (va_A (mW cI cZ ad t n B E C O F L V) sz) o.2.1 n B E C O F o.2.2.1 o.2.2.2 o.1) 0 0 (va_A (mW cI cZ ad t n B E C O F L V) sz) := by
  refine Met.ofW (cc := b_M_left) (maxL := 5) (ret := (some .int)) (by decide) rfl ?_
  intro p e s m args below meth c s₁ Bd hml hv
  obtain ⟨rfl, hsz, hP, hK, hD0⟩ := hv
  have hx := Bd.exec
  have hb := Bd.bytes
  have hr := Bd.returns
  have hts := fun w h => atoms_spec (ws := w_M_left) Bd.pre w (List.mem_cons_of_mem _ h)
  have hown : s.vm.findClass R_M = some m.cls := findClass_of_methodNamed Bd.named
  have hlocks := Bd.notSynchronized
  subst hsz
  have hD := hD0.self (sz := s.heap.size)
  generalize hAe : va_A (mW cI cZ ad t n B E C O F L V) s.heap.size = A at hD ⊢
  have hA : ∀ q : Nat, s.heap.size ≤ q → A q := fun q h => by rw [← hAe]; exact Or.inr h
  have hS : va_S A s.heap s.heap [] := va_S.rf
  have hl := lv_entry ([.ref (ad 0), .int p0, .int p1]) (n := 5) (Nat.le_of_ble_eq_true rfl)
  rw [lg_entry_eq]
  generalize (lg_sl ([.ref (ad 0), .int p0, .int p1]) ++ List.replicate (5 - (lg_sl ([.ref (ad 0), .int p0, .int p1])).length) Slot.unset).toArray = ls at hl ⊢
  have hl : lv_has ls 5 [(0, .ref (ad 0)), (1, .int p0), (2, .int p1)] := hl
  have hE : ∀ (pc : Nat) (H : Heap) (locs : List Loc) (ls : Array Slot), va_P (dC, dI) classes (mW cI cZ ad o.2.1 n B E C O F o.2.2.1 o.2.2.2) H → va_D A (mW cI cZ ad o.2.1 n B E C O F o.2.2.1 o.2.2.2) → va_S A s.heap H locs → decode b_M_left pc = .ok (.ireturn, 1) → W p l e (headSpec w_M_left rm_M_left).room s m ([.ref (ad 0), .int p0, .int p1] : List Value).toArray below meth c H locs 0 0 (MQ below (mW_Qi dC dI cI cZ ad A o.2.1 n B E C O F o.2.2.1 o.2.2.2 o.1) ([.ref (ad 0), .int p0, .int p1] : List Value).toArray s 0 0 A) (F0 m pc ls [.int o.1]) := fun pc H locs ls hP hD hS hd => W.iret (v := o.1) hx hb hr (fun t ht hW => ⟨⟨o.1, (), rfl, rfl, by rw [ht]; exact hP, va_K.moved hW.alike hK, hD⟩, hS.F ht⟩) hS.2.2 hd
  unfold f_M_left at hf
  refine lv_aload_n hx hb d_M_left_0 rfl (lv_at hl 0 rfl) ?_
  refine lv_iload_n hx hb d_M_left_1 rfl (lv_at hl 1 rfl) ?_
  refine lv_iload_n hx hb d_M_left_2 rfl (lv_at hl 2 rfl) ?_
  obtain ⟨o1, hco1, hf⟩ := fg_ob_some hf
  refine fg_r0 (W.runS (As := [.int p0, .int p1]) (rest := [.ref (ad 0)]) ⟨hx, hb, hml, hown, hts⟩ (c_M_areUnlike l p0 p1 o1 hco1) (cwS 2 hts gs_M_69 rfl rfl rfl (by decide +kernel) ⟨Nat.le_of_ble_eq_true rfl, Nat.le_of_ble_eq_true rfl⟩) preEq rfl rfl hl.1 rfl (lv_room (Nat.le_of_ble_eq_true rfl)) d_M_left_3 ⟨Nat.le_of_ble_eq_true rfl, Nat.le_of_ble_eq_true rfl⟩) ?_
  refine lv_if_ne (tgt := 13) hx hb d_M_left_6 (by decide) (fun hc => ?_) (fun hc => ?_)
  · rw [if_neg hc] at hf
    refine lv_iconst (v := 0) hx hb d_M_left_13 (by decide) ?_
    refine lv_iconst (v := 0) hx hb d_M_left_14 (by decide) ?_
    obtain ⟨o2, hco2, hf⟩ := fg_ob_some hf
    refine fgM_i (va_runV (As := [.int 0, .int 0]) (rest := []) ⟨hx, hb, hml, hown, hts⟩ (c_M_refuse l dC dI cI cZ ad _ t n B E C O F L V 0 0 o2 hco2) (cwV 2 hts gv_M_47 rfl rfl rfl (by decide +kernel) ⟨Nat.le_of_ble_eq_true rfl, Nat.le_of_ble_eq_true rfl⟩) (mW_pre hK hP hD) rfl rfl hl.1 rfl (lv_room (Nat.le_of_ble_eq_true rfl)) d_M_left_15 ⟨Nat.le_of_ble_eq_true rfl, Nat.le_of_ble_eq_true rfl⟩) hP hD hS hA (fun H locs hP hD hS => ?_)
    refine lv_if_eq (tgt := 23) hx hb d_M_left_18 (by decide) (fun hc => ?_) (fun hc => ?_)
    · rw [if_pos hc] at hf
      refine lv_aload_n hx hb d_M_left_23 rfl (lv_at hl 0 rfl) ?_
      refine lv_iload_n hx hb d_M_left_24 rfl (lv_at hl 1 rfl) ?_
      refine lv_iload_n hx hb d_M_left_25 rfl (lv_at hl 2 rfl) ?_
      obtain ⟨o3, hco3, hf⟩ := fg_ob_some hf
      refine fgM_i (va_runV (As := [.int p0, .int p1]) (rest := []) ⟨hx, hb, hml, hown, hts⟩ (c_M_flow l dC dI cI cZ ad _ o2.2 n B E C O F L V p0 p1 o3 hco3) (cwV 2 hts gv_M_73 rfl rfl rfl (by decide +kernel) ⟨Nat.le_of_ble_eq_true rfl, Nat.le_of_ble_eq_true rfl⟩) (mW_pre hK hP hD) rfl rfl hl.1 rfl (lv_room (Nat.le_of_ble_eq_true rfl)) d_M_left_26 ⟨Nat.le_of_ble_eq_true rfl, Nat.le_of_ble_eq_true rfl⟩) hP hD hS hA (fun H locs hP hD hS => ?_)
      refine lv_pop hx hb d_M_left_29 rfl ?_
      refine lv_iconst (v := 0) hx hb d_M_left_30 (by decide) ?_
      refine lv_istore_n (lv' := [(3, .int 0), (0, .ref (ad 0)), (1, .int p0), (2, .int p1)]) hx hb d_M_left_31 rfl hl (by decide) rfl (fun ls hl => ?_)
      refine lv_iconst (v := 0) hx hb d_M_left_32 (by decide) ?_
      refine lv_istore (lv' := [(4, .int 0), (3, .int 0), (0, .ref (ad 0)), (1, .int p0), (2, .int p1)]) hx hb d_M_left_33 hl (by decide) rfl (fun ls hl => ?_)
      obtain ⟨o4, hco4, hf⟩ := fg_ob_some hf
      refine w_M_left_35 hx hb hml hown hts hK hA o2.2 n B E C O F o3.2.1 o3.2.2 fu 0 0 o4 hco4 _ _ _ hP hD hS (lv_sub hl [2, 1, 0] rfl) (fun H locs ls hP hD hS hl => ?_)
      refine lv_iload_n hx hb d_M_left_69 rfl (lv_at hl 0 rfl) ?_
      cases hf
      exact hE _ _ _ _ hP hD hS d_M_left_70
    · rw [if_neg hc] at hf
      refine lv_iconst (v := 0) hx hb d_M_left_21 (by decide) ?_
      cases hf
      exact hE _ _ _ _ hP hD hS d_M_left_22
  · rw [if_pos hc] at hf
    refine lv_iconst (v := 1) hx hb d_M_left_9 (by decide) ?_
    refine lv_goto (tgt := 14) hx hb d_M_left_10 (by decide) ?_
    refine lv_iconst (v := 0) hx hb d_M_left_14 (by decide) ?_
    obtain ⟨o5, hco5, hf⟩ := fg_ob_some hf
    refine fgM_i (va_runV (As := [.int 1, .int 0]) (rest := []) ⟨hx, hb, hml, hown, hts⟩ (c_M_refuse l dC dI cI cZ ad _ t n B E C O F L V 1 0 o5 hco5) (cwV 2 hts gv_M_47 rfl rfl rfl (by decide +kernel) ⟨Nat.le_of_ble_eq_true rfl, Nat.le_of_ble_eq_true rfl⟩) (mW_pre hK hP hD) rfl rfl hl.1 rfl (lv_room (Nat.le_of_ble_eq_true rfl)) d_M_left_15 ⟨Nat.le_of_ble_eq_true rfl, Nat.le_of_ble_eq_true rfl⟩) hP hD hS hA (fun H locs hP hD hS => ?_)
    refine lv_if_eq (tgt := 23) hx hb d_M_left_18 (by decide) (fun hc => ?_) (fun hc => ?_)
    · rw [if_pos hc] at hf
      refine lv_aload_n hx hb d_M_left_23 rfl (lv_at hl 0 rfl) ?_
      refine lv_iload_n hx hb d_M_left_24 rfl (lv_at hl 1 rfl) ?_
      refine lv_iload_n hx hb d_M_left_25 rfl (lv_at hl 2 rfl) ?_
      obtain ⟨o6, hco6, hf⟩ := fg_ob_some hf
      refine fgM_i (va_runV (As := [.int p0, .int p1]) (rest := []) ⟨hx, hb, hml, hown, hts⟩ (c_M_flow l dC dI cI cZ ad _ o5.2 n B E C O F L V p0 p1 o6 hco6) (cwV 2 hts gv_M_73 rfl rfl rfl (by decide +kernel) ⟨Nat.le_of_ble_eq_true rfl, Nat.le_of_ble_eq_true rfl⟩) (mW_pre hK hP hD) rfl rfl hl.1 rfl (lv_room (Nat.le_of_ble_eq_true rfl)) d_M_left_26 ⟨Nat.le_of_ble_eq_true rfl, Nat.le_of_ble_eq_true rfl⟩) hP hD hS hA (fun H locs hP hD hS => ?_)
      refine lv_pop hx hb d_M_left_29 rfl ?_
      refine lv_iconst (v := 0) hx hb d_M_left_30 (by decide) ?_
      refine lv_istore_n (lv' := [(3, .int 0), (0, .ref (ad 0)), (1, .int p0), (2, .int p1)]) hx hb d_M_left_31 rfl hl (by decide) rfl (fun ls hl => ?_)
      refine lv_iconst (v := 0) hx hb d_M_left_32 (by decide) ?_
      refine lv_istore (lv' := [(4, .int 0), (3, .int 0), (0, .ref (ad 0)), (1, .int p0), (2, .int p1)]) hx hb d_M_left_33 hl (by decide) rfl (fun ls hl => ?_)
      obtain ⟨o7, hco7, hf⟩ := fg_ob_some hf
      refine w_M_left_35 hx hb hml hown hts hK hA o5.2 n B E C O F o6.2.1 o6.2.2 fu 0 0 o7 hco7 _ _ _ hP hD hS (lv_sub hl [2, 1, 0] rfl) (fun H locs ls hP hD hS hl => ?_)
      refine lv_iload_n hx hb d_M_left_69 rfl (lv_at hl 0 rfl) ?_
      cases hf
      exact hE _ _ _ _ hP hD hS d_M_left_70
    · rw [if_neg hc] at hf
      refine lv_iconst (v := 0) hx hb d_M_left_21 (by decide) ?_
      cases hf
      exact hE _ _ _ _ hP hD hS d_M_left_22
