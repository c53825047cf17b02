set_option maxHeartbeats 4000000 in
set_option maxRecDepth 100000 in
theorem c_M_length (l : Launch) (dC : Nat → ClassId) (dI : Nat → Nat → Nat) (cI cZ : ClassId) (ad : Nat → Nat) (sz : Nat) (t : Int32) (n : Int32) (B : fg_A) (E : fg_A) (C : fg_A) (O : fg_A) (F : fg_A) (L : fg_A) (V : fg_A) (p0 : Int32) (p1 : Int32) (o : Int32 × Int32 × fg_A) (hf : f_M_length t n B E O F p0 p1 = some o) : Met l y_M_length w_M_length rm_M_length (mW_Pc dC dI cI cZ ad sz t n B E C O F L V [.ref (ad 0), .int p0, .int p1]) (mW_Qi dC dI cI cZ ad (va_A (mW cI cZ ad t n B E C O F L V) sz) o.2.1 n B E C O o.2.2 L V o.1) 0 0 (va_A (mW cI cZ ad t n B E C O F L V) sz) := by
  refine Met.ofW (cc := b_M_length) (maxL := 3) (ret := (some .int)) (by decide) rfl ?_
  intro p e s m args below meth c s₁ Bd hml hv
  obtain ⟨rfl, hsz, hP, hK, hD0⟩ := hv
  have hx := Bd.exec
  have hb := Bd.bytes
  have hr := Bd.returns
  have hts := fun w h => atoms_spec (ws := w_M_length) Bd.pre w (List.mem_cons_of_mem _ h)
  have hown : s.vm.findClass R_M = some m.cls := findClass_of_methodNamed Bd.named
  have hlocks := Bd.notSynchronized
  subst hsz
  have hD := hD0.self (sz := s.heap.size)
  generalize hAe : va_A (mW cI cZ ad t n B E C O F L V) s.heap.size = A at hD ⊢
  have hA : ∀ q : Nat, s.heap.size ≤ q → A q := fun q h => by rw [← hAe]; exact Or.inr h
  have hS : va_S A s.heap s.heap [] := va_S.rf
  have hl := lv_entry ([.ref (ad 0), .int p0, .int p1]) (n := 3) (Nat.le_of_ble_eq_true rfl)
  rw [lg_entry_eq]
  generalize (lg_sl ([.ref (ad 0), .int p0, .int p1]) ++ List.replicate (3 - (lg_sl ([.ref (ad 0), .int p0, .int p1])).length) Slot.unset).toArray = ls at hl ⊢
  have hl : lv_has ls 3 [(0, .ref (ad 0)), (1, .int p0), (2, .int p1)] := hl
  have hE : ∀ (pc : Nat) (H : Heap) (locs : List Loc) (ls : Array Slot), va_P (dC, dI) classes (mW cI cZ ad o.2.1 n B E C O o.2.2 L V) H → va_D A (mW cI cZ ad o.2.1 n B E C O o.2.2 L V) → va_S A s.heap H locs → decode b_M_length pc = .ok (.ireturn, 1) → W p l e (headSpec w_M_length rm_M_length).room s m ([.ref (ad 0), .int p0, .int p1] : List Value).toArray below meth c H locs 0 0 (MQ below (mW_Qi dC dI cI cZ ad A o.2.1 n B E C O o.2.2 L V o.1) ([.ref (ad 0), .int p0, .int p1] : List Value).toArray s 0 0 A) (F0 m pc ls [.int o.1]) := fun pc H locs ls hP hD hS hd => W.iret (v := o.1) hx hb hr (fun t ht hW => ⟨⟨o.1, (), rfl, rfl, by rw [ht]; exact hP, va_K.moved hW.alike hK, hD⟩, hS.F ht⟩) hS.2.2 hd
  unfold f_M_length at hf
  refine lv_aload_n hx hb d_M_length_0 rfl (lv_at hl 0 rfl) ?_
  refine lv_iload_n hx hb d_M_length_1 rfl (lv_at hl 1 rfl) ?_
  obtain ⟨o1, hco1, hf⟩ := fg_ob_some hf
  refine fg_r0 (W.runS (As := [.int p0]) (rest := [.ref (ad 0)]) ⟨hx, hb, hml, hown, hts⟩ (c_M_isNode l p0 o1 hco1) (cwS 1 hts gs_M_43 rfl rfl rfl (by decide +kernel) ⟨Nat.le_of_ble_eq_true rfl, Nat.le_of_ble_eq_true rfl⟩) preEq rfl rfl hl.1 rfl (lv_room (Nat.le_of_ble_eq_true rfl)) d_M_length_2 ⟨Nat.le_of_ble_eq_true rfl, Nat.le_of_ble_eq_true rfl⟩) ?_
  refine lv_if_eq (tgt := 15) hx hb d_M_length_5 (by decide) (fun hc => ?_) (fun hc => ?_)
  · rw [if_pos hc] at hf
    refine lv_iconst (v := 1) hx hb d_M_length_15 (by decide) ?_
    refine lv_goto (tgt := 20) hx hb d_M_length_16 (by decide) ?_
    refine lv_iconst (v := 0) hx hb d_M_length_20 (by decide) ?_
    obtain ⟨o2, hco2, hf⟩ := fg_ob_some hf
    refine fgM_i (va_runV (As := [.int 1, .int 0]) (rest := []) ⟨hx, hb, hml, hown, hts⟩ (c_M_refuse l dC dI cI cZ ad _ t n B E C O F L V 1 0 o2 hco2) (cwV 2 hts gv_M_47 rfl rfl rfl (by decide +kernel) ⟨Nat.le_of_ble_eq_true rfl, Nat.le_of_ble_eq_true rfl⟩) (mW_pre hK hP hD) rfl rfl hl.1 rfl (lv_room (Nat.le_of_ble_eq_true rfl)) d_M_length_21 ⟨Nat.le_of_ble_eq_true rfl, Nat.le_of_ble_eq_true rfl⟩) hP hD hS hA (fun H locs hP hD hS => ?_)
    refine lv_if_eq (tgt := 29) hx hb d_M_length_24 (by decide) (fun hc => ?_) (fun hc => ?_)
    · rw [if_pos hc] at hf
      refine lv_aload_n hx hb d_M_length_29 rfl (lv_at hl 0 rfl) ?_
      refine lv_iload_n hx hb d_M_length_30 rfl (lv_at hl 2 rfl) ?_
      refine lv_iconst (v := (-1)) hx hb d_M_length_31 (by decide) ?_
      obtain ⟨o3, hco3, hf⟩ := fg_ob_some hf
      refine fgM_v (va_runV (As := [.int p1, .int (-1)]) (rest := []) ⟨hx, hb, hml, hown, hts⟩ (c_M_measure l dC dI cI cZ ad _ o2.2 n B E C O F L V p1 (-1) o3 hco3) (cwV 2 hts gv_M_51 rfl rfl rfl (by decide +kernel) ⟨Nat.le_of_ble_eq_true rfl, Nat.le_of_ble_eq_true rfl⟩) (mW_pre hK hP hD) rfl rfl hl.1 rfl (lv_room (Nat.le_of_ble_eq_true rfl)) d_M_length_32 ⟨Nat.le_of_ble_eq_true rfl, Nat.le_of_ble_eq_true rfl⟩) hP hD hS hA (fun H locs hP hD hS => ?_)
      refine lv_aload_n hx hb d_M_length_35 rfl (lv_at hl 0 rfl) ?_
      refine va_get (D := (dC, dI)) (ci := 1) (v := .ref (ad 5)) (C := R_M) (T := F_M) (N := 9) hx hb hts i_M hown hK hP 0 rfl rfl 6 (by decide) (hts _ fl_M_23) (fun _ h9 => h9) rfl d_M_length_36 ?_
      refine lv_iload_n hx hb d_M_length_39 rfl (lv_at hl 1 rfl) ?_
      obtain ⟨hi, hf⟩ := fg_og_some hf
      refine va_iald hx hb hK hP 5 0 rfl rfl (ix_in hi) d_M_length_40 ?_
      cases hf
      exact hE _ _ _ _ hP hD hS d_M_length_41
    · rw [if_neg hc] at hf
      refine lv_iconst (v := 0) hx hb d_M_length_27 (by decide) ?_
      cases hf
      exact hE _ _ _ _ hP hD hS d_M_length_28
  · rw [if_neg hc] at hf
    refine lv_iload_n hx hb d_M_length_8 rfl (lv_at hl 2 rfl) ?_
    obtain ⟨o4, hco4, hf⟩ := fg_ob_some hf
    refine fg_r0 (W.runS (As := [.int p1]) (rest := [.ref (ad 0)]) ⟨hx, hb, hml, hown, hts⟩ (c_M_isNode l p1 o4 hco4) (cwS 1 hts gs_M_43 rfl rfl rfl (by decide +kernel) ⟨Nat.le_of_ble_eq_true rfl, Nat.le_of_ble_eq_true rfl⟩) preEq rfl rfl hl.1 rfl (lv_room (Nat.le_of_ble_eq_true rfl)) d_M_length_9 ⟨Nat.le_of_ble_eq_true rfl, Nat.le_of_ble_eq_true rfl⟩) ?_
    refine lv_if_ne (tgt := 19) hx hb d_M_length_12 (by decide) (fun hc => ?_) (fun hc => ?_)
    · rw [if_neg hc] at hf
      refine lv_iconst (v := 0) hx hb d_M_length_19 (by decide) ?_
      refine lv_iconst (v := 0) hx hb d_M_length_20 (by decide) ?_
      obtain ⟨o5, hco5, hf⟩ := fg_ob_some hf
      refine fgM_i (va_runV (As := [.int 0, .int 0]) (rest := []) ⟨hx, hb, hml, hown, hts⟩ (c_M_refuse l dC dI cI cZ ad _ t n B E C O F L V 0 0 o5 hco5) (cwV 2 hts gv_M_47 rfl rfl rfl (by decide +kernel) ⟨Nat.le_of_ble_eq_true rfl, Nat.le_of_ble_eq_true rfl⟩) (mW_pre hK hP hD) rfl rfl hl.1 rfl (lv_room (Nat.le_of_ble_eq_true rfl)) d_M_length_21 ⟨Nat.le_of_ble_eq_true rfl, Nat.le_of_ble_eq_true rfl⟩) hP hD hS hA (fun H locs hP hD hS => ?_)
      refine lv_if_eq (tgt := 29) hx hb d_M_length_24 (by decide) (fun hc => ?_) (fun hc => ?_)
      · rw [if_pos hc] at hf
        refine lv_aload_n hx hb d_M_length_29 rfl (lv_at hl 0 rfl) ?_
        refine lv_iload_n hx hb d_M_length_30 rfl (lv_at hl 2 rfl) ?_
        refine lv_iconst (v := (-1)) hx hb d_M_length_31 (by decide) ?_
        obtain ⟨o6, hco6, hf⟩ := fg_ob_some hf
        refine fgM_v (va_runV (As := [.int p1, .int (-1)]) (rest := []) ⟨hx, hb, hml, hown, hts⟩ (c_M_measure l dC dI cI cZ ad _ o5.2 n B E C O F L V p1 (-1) o6 hco6) (cwV 2 hts gv_M_51 rfl rfl rfl (by decide +kernel) ⟨Nat.le_of_ble_eq_true rfl, Nat.le_of_ble_eq_true rfl⟩) (mW_pre hK hP hD) rfl rfl hl.1 rfl (lv_room (Nat.le_of_ble_eq_true rfl)) d_M_length_32 ⟨Nat.le_of_ble_eq_true rfl, Nat.le_of_ble_eq_true rfl⟩) hP hD hS hA (fun H locs hP hD hS => ?_)
        refine lv_aload_n hx hb d_M_length_35 rfl (lv_at hl 0 rfl) ?_
        refine va_get (D := (dC, dI)) (ci := 1) (v := .ref (ad 5)) (C := R_M) (T := F_M) (N := 9) hx hb hts i_M hown hK hP 0 rfl rfl 6 (by decide) (hts _ fl_M_23) (fun _ h9 => h9) rfl d_M_length_36 ?_
        refine lv_iload_n hx hb d_M_length_39 rfl (lv_at hl 1 rfl) ?_
        obtain ⟨hi, hf⟩ := fg_og_some hf
        refine va_iald hx hb hK hP 5 0 rfl rfl (ix_in hi) d_M_length_40 ?_
        cases hf
        exact hE _ _ _ _ hP hD hS d_M_length_41
      · rw [if_neg hc] at hf
        refine lv_iconst (v := 0) hx hb d_M_length_27 (by decide) ?_
        cases hf
        exact hE _ _ _ _ hP hD hS d_M_length_28
    · rw [if_pos hc] at hf
      refine lv_iconst (v := 1) hx hb d_M_length_15 (by decide) ?_
      refine lv_goto (tgt := 20) hx hb d_M_length_16 (by decide) ?_
      refine lv_iconst (v := 0) hx hb d_M_length_20 (by decide) ?_
      obtain ⟨o7, hco7, hf⟩ := fg_ob_some hf
      refine fgM_i (va_runV (As := [.int 1, .int 0]) (rest := []) ⟨hx, hb, hml, hown, hts⟩ (c_M_refuse l dC dI cI cZ ad _ t n B E C O F L V 1 0 o7 hco7) (cwV 2 hts gv_M_47 rfl rfl rfl (by decide +kernel) ⟨Nat.le_of_ble_eq_true rfl, Nat.le_of_ble_eq_true rfl⟩) (mW_pre hK hP hD) rfl rfl hl.1 rfl (lv_room (Nat.le_of_ble_eq_true rfl)) d_M_length_21 ⟨Nat.le_of_ble_eq_true rfl, Nat.le_of_ble_eq_true rfl⟩) hP hD hS hA (fun H locs hP hD hS => ?_)
      refine lv_if_eq (tgt := 29) hx hb d_M_length_24 (by decide) (fun hc => ?_) (fun hc => ?_)
      · rw [if_pos hc] at hf
        refine lv_aload_n hx hb d_M_length_29 rfl (lv_at hl 0 rfl) ?_
        refine lv_iload_n hx hb d_M_length_30 rfl (lv_at hl 2 rfl) ?_
        refine lv_iconst (v := (-1)) hx hb d_M_length_31 (by decide) ?_
        obtain ⟨o8, hco8, hf⟩ := fg_ob_some hf
        refine fgM_v (va_runV (As := [.int p1, .int (-1)]) (rest := []) ⟨hx, hb, hml, hown, hts⟩ (c_M_measure l dC dI cI cZ ad _ o7.2 n B E C O F L V p1 (-1) o8 hco8) (cwV 2 hts gv_M_51 rfl rfl rfl (by decide +kernel) ⟨Nat.le_of_ble_eq_true rfl, Nat.le_of_ble_eq_true rfl⟩) (mW_pre hK hP hD) rfl rfl hl.1 rfl (lv_room (Nat.le_of_ble_eq_true rfl)) d_M_length_32 ⟨Nat.le_of_ble_eq_true rfl, Nat.le_of_ble_eq_true rfl⟩) hP hD hS hA (fun H locs hP hD hS => ?_)
        refine lv_aload_n hx hb d_M_length_35 rfl (lv_at hl 0 rfl) ?_
        refine va_get (D := (dC, dI)) (ci := 1) (v := .ref (ad 5)) (C := R_M) (T := F_M) (N := 9) hx hb hts i_M hown hK hP 0 rfl rfl 6 (by decide) (hts _ fl_M_23) (fun _ h9 => h9) rfl d_M_length_36 ?_
        refine lv_iload_n hx hb d_M_length_39 rfl (lv_at hl 1 rfl) ?_
        obtain ⟨hi, hf⟩ := fg_og_some hf
        refine va_iald hx hb hK hP 5 0 rfl rfl (ix_in hi) d_M_length_40 ?_
        cases hf
        exact hE _ _ _ _ hP hD hS d_M_length_41
      · rw [if_neg hc] at hf
        refine lv_iconst (v := 0) hx hb d_M_length_27 (by decide) ?_
        cases hf
        exact hE _ _ _ _ hP hD hS d_M_length_28
set_option maxHeartbeats 4000000 in
set_option maxRecDepth 100000 in
theorem w_M_step_112 {p : Program} {l : Launch} {e : Env} {s : State} {m : MethodId} {args : Array Value} {below : List Frame} {meth : Method} {c : Code} {Q : State → Prop} {A : Nat → Prop} {dC : Nat → ClassId} {dI : Nat → Nat → Nat} {cI cZ : ClassId} {ad : Nat → Nat} (hx : p.tables.exec = Jvm.exec) (hb : c.code = b_M_step) (hml : c.maxLocals = 9) (hown : s.vm.findClass R_M = some m.cls) (hts : ∀ w ∈ gw, w.before args s = true) (hK : va_K (dC, dI) classes (gT cI cZ) s) (hA : ∀ q : Nat, s.heap.size ≤ q → A q) (x3 : Int32) (x5 : Int32) (x7 : Int32) (t : Int32) (n : Int32) (B : fg_A) (E : fg_A) (C : fg_A) (O : fg_A) (F : fg_A) (L : fg_A) (V : fg_A) :
    ∀ (k : Nat) (x6 : Int32) (x8 : Int32) (o : Int32), f_M_step_112 B E O F x3 x5 x7 k x6 x8 = some o → ∀ (H : Heap) (locs : List Loc) (ls : Array Slot), va_P (dC, dI) classes (mW cI cZ ad t n B E C O F L V) H → va_D A (mW cI cZ ad t n B E C O F L V) → va_S A s.heap H locs → lv_has ls 9 [(0, .ref (ad 0)), (3, .int x3), (5, .int x5), (6, .int x6), (7, .int x7), (8, .int x8)] →
    (∀ (H : Heap) (locs : List Loc) (ls : Array Slot), va_P (dC, dI) classes (mW cI cZ ad t n B E C O F L V) H → va_D A (mW cI cZ ad t n B E C O F L V) → va_S A s.heap H locs → lv_has ls 9 [(0, .ref (ad 0)), (3, .int x3), (6, .int o), (7, .int x7)] → W p l e (headSpec w_M_step rm_M_step).room s m args below meth c H locs 0 0 Q (F0 m 178 ls [])) → W p l e (headSpec w_M_step rm_M_step).room s m args below meth c H locs 0 0 Q (F0 m 112 ls []) := by
  intro k
  induction k with
  | zero =>
    intro x6 x8 o hf
    exact absurd (show none = some o from hf) (by simp)
  | succ k ih =>
    intro x6 x8 o hf H locs ls hP hD hS hl hk
    rw [f_M_step_112] at hf
    refine lv_iload hx hb d_M_step_112 (lv_at hl 5 rfl) ?_
    refine lv_if_lt (tgt := 178) hx hb d_M_step_114 (by decide) (fun hc => ?_) (fun hc => ?_)
    · rw [if_pos hc] at hf
      cases hf
      exact hk _ _ _ hP hD hS (lv_sub hl [0, 1, 3, 4] rfl)
    · rw [if_neg hc] at hf
      refine lv_aload_n hx hb d_M_step_117 rfl (lv_at hl 0 rfl) ?_
      refine va_get (D := (dC, dI)) (ci := 1) (v := .ref (ad 4)) (C := R_M) (T := F_M) (N := 9) hx hb hts i_M hown hK hP 0 rfl rfl 5 (by decide) (hts _ fl_M_19) (fun _ h9 => h9) rfl d_M_step_118 ?_
      refine lv_iload hx hb d_M_step_121 (lv_at hl 5 rfl) ?_
      obtain ⟨hi, hf⟩ := fg_og_some hf
      refine va_zald hx hb hK hP 4 1 rfl rfl (ix_in hi) d_M_step_123 ?_
      refine lv_if_eq (tgt := 168) hx hb d_M_step_124 (by decide) (fun hc => ?_) (fun hc => ?_)
      · rw [if_pos hc] at hf
        refine lv_iload hx hb d_M_step_168 (lv_at hl 3 rfl) ?_
        refine lv_istore (lv' := [(6, .int x6), (0, .ref (ad 0)), (3, .int x3), (5, .int x5), (7, .int x7), (8, .int x8)]) hx hb d_M_step_170 hl (by decide) rfl (fun ls hl => ?_)
        refine lv_iinc (v := x8 + (-1)) (lv' := [(8, .int (x8 + (-1))), (6, .int x6), (0, .ref (ad 0)), (3, .int x3), (5, .int x5), (7, .int x7)]) hx hb d_M_step_172 hl (k := 5) rfl rfl (by decide) rfl (fun ls hl => ?_)
        refine lv_goto (tgt := 112) hx hb d_M_step_175 (by decide) ?_
        exact ih x6 (x8 + (-1)) _ hf _ _ _ hP hD hS (lv_sub hl [2, 3, 4, 1, 5, 0] rfl) hk
      · rw [if_neg hc] at hf
        refine lv_aload_n hx hb d_M_step_127 rfl (lv_at hl 0 rfl) ?_
        refine va_get (D := (dC, dI)) (ci := 1) (v := .ref (ad 1)) (C := R_M) (T := F_M) (N := 9) hx hb hts i_M hown hK hP 0 rfl rfl 2 (by decide) (hts _ fl_M_7) (fun _ h9 => h9) rfl d_M_step_128 ?_
        refine lv_iload hx hb d_M_step_131 (lv_at hl 5 rfl) ?_
        obtain ⟨hi, hf⟩ := fg_og_some hf
        refine va_iald hx hb hK hP 1 0 rfl rfl (ix_in hi) d_M_step_133 ?_
        refine lv_iload hx hb d_M_step_134 (lv_at hl 2 rfl) ?_
        refine lv_icmp_ne (tgt := 168) hx hb d_M_step_136 (by decide) (fun hc => ?_) (fun hc => ?_)
        · rw [if_neg hc] at hf
          refine lv_iload hx hb d_M_step_168 (lv_at hl 3 rfl) ?_
          refine lv_istore (lv' := [(6, .int x6), (0, .ref (ad 0)), (3, .int x3), (5, .int x5), (7, .int x7), (8, .int x8)]) hx hb d_M_step_170 hl (by decide) rfl (fun ls hl => ?_)
          refine lv_iinc (v := x8 + (-1)) (lv' := [(8, .int (x8 + (-1))), (6, .int x6), (0, .ref (ad 0)), (3, .int x3), (5, .int x5), (7, .int x7)]) hx hb d_M_step_172 hl (k := 5) rfl rfl (by decide) rfl (fun ls hl => ?_)
          refine lv_goto (tgt := 112) hx hb d_M_step_175 (by decide) ?_
          exact ih x6 (x8 + (-1)) _ hf _ _ _ hP hD hS (lv_sub hl [2, 3, 4, 1, 5, 0] rfl) hk
        · rw [if_pos hc] at hf
          refine lv_aload_n hx hb d_M_step_139 rfl (lv_at hl 0 rfl) ?_
          refine va_get (D := (dC, dI)) (ci := 1) (v := .ref (ad 5)) (C := R_M) (T := F_M) (N := 9) hx hb hts i_M hown hK hP 0 rfl rfl 6 (by decide) (hts _ fl_M_23) (fun _ h9 => h9) rfl d_M_step_140 ?_
          refine lv_aload_n hx hb d_M_step_143 rfl (lv_at hl 0 rfl) ?_
          refine va_get (D := (dC, dI)) (ci := 1) (v := .ref (ad 2)) (C := R_M) (T := F_M) (N := 9) hx hb hts i_M hown hK hP 0 rfl rfl 3 (by decide) (hts _ fl_M_13) (fun _ h9 => h9) rfl d_M_step_144 ?_
          refine lv_iload hx hb d_M_step_147 (lv_at hl 5 rfl) ?_
          obtain ⟨hi, hf⟩ := fg_og_some hf
          refine va_iald hx hb hK hP 2 0 rfl rfl (ix_in hi) d_M_step_149 ?_
          obtain ⟨hi, hf⟩ := fg_og_some hf
          refine va_iald hx hb hK hP 5 0 rfl rfl (ix_in hi) d_M_step_150 ?_
          refine lv_aload_n hx hb d_M_step_151 rfl (lv_at hl 0 rfl) ?_
          refine va_get (D := (dC, dI)) (ci := 1) (v := .ref (ad 5)) (C := R_M) (T := F_M) (N := 9) hx hb hts i_M hown hK hP 0 rfl rfl 6 (by decide) (hts _ fl_M_23) (fun _ h9 => h9) rfl d_M_step_152 ?_
          refine lv_iload hx hb d_M_step_155 (lv_at hl 2 rfl) ?_
          obtain ⟨hi, hf⟩ := fg_og_some hf
          refine va_iald hx hb hK hP 5 0 rfl rfl (ix_in hi) d_M_step_157 ?_
          refine lv_iconst (v := 1) hx hb d_M_step_158 (by decide) ?_
          refine lv_isub hx hb d_M_step_159 ?_
          refine lv_icmp_ne (tgt := 168) hx hb d_M_step_160 (by decide) (fun hc => ?_) (fun hc => ?_)
          · rw [if_neg hc] at hf
            refine lv_iload hx hb d_M_step_168 (lv_at hl 3 rfl) ?_
            refine lv_istore (lv' := [(6, .int x6), (0, .ref (ad 0)), (3, .int x3), (5, .int x5), (7, .int x7), (8, .int x8)]) hx hb d_M_step_170 hl (by decide) rfl (fun ls hl => ?_)
            refine lv_iinc (v := x8 + (-1)) (lv' := [(8, .int (x8 + (-1))), (6, .int x6), (0, .ref (ad 0)), (3, .int x3), (5, .int x5), (7, .int x7)]) hx hb d_M_step_172 hl (k := 5) rfl rfl (by decide) rfl (fun ls hl => ?_)
            refine lv_goto (tgt := 112) hx hb d_M_step_175 (by decide) ?_
            exact ih x6 (x8 + (-1)) _ hf _ _ _ hP hD hS (lv_sub hl [2, 3, 4, 1, 5, 0] rfl) hk
          · rw [if_pos hc] at hf
            refine lv_iload hx hb d_M_step_163 (lv_at hl 5 rfl) ?_
            refine lv_goto (tgt := 170) hx hb d_M_step_165 (by decide) ?_
            refine lv_istore (lv' := [(6, .int x8), (0, .ref (ad 0)), (3, .int x3), (5, .int x5), (7, .int x7), (8, .int x8)]) hx hb d_M_step_170 hl (by decide) rfl (fun ls hl => ?_)
            refine lv_iinc (v := x8 + (-1)) (lv' := [(8, .int (x8 + (-1))), (6, .int x8), (0, .ref (ad 0)), (3, .int x3), (5, .int x5), (7, .int x7)]) hx hb d_M_step_172 hl (k := 5) rfl rfl (by decide) rfl (fun ls hl => ?_)
            refine lv_goto (tgt := 112) hx hb d_M_step_175 (by decide) ?_
            exact ih x8 (x8 + (-1)) _ hf _ _ _ hP hD hS (lv_sub hl [2, 3, 4, 1, 5, 0] rfl) hk
set_option maxHeartbeats 4000000 in
set_option maxRecDepth 100000 in
theorem w_M_step_95 {p : Program} {l : Launch} {e : Env} {s : State} {m : MethodId} {args : Array Value} {below : List Frame} {meth : Method} {c : Code} {Q : State → Prop} {A : Nat → Prop} {dC : Nat → ClassId} {dI : Nat → Nat → Nat} {cI cZ : ClassId} {ad : Nat → Nat} (hx : p.tables.exec = Jvm.exec) (hb : c.code = b_M_step) (hml : c.maxLocals = 9) (hown : s.vm.findClass R_M = some m.cls) (hts : ∀ w ∈ gw, w.before args s = true) (hK : va_K (dC, dI) classes (gT cI cZ) s) (hA : ∀ q : Nat, s.heap.size ≤ q → A q) (x3 : Int32) (t : Int32) (n : Int32) (B : fg_A) (E : fg_A) (C : fg_A) (O : fg_A) (F : fg_A) (L : fg_A) (V : fg_A) :
    ∀ (k : Nat) (x5 : Int32) (x6 : Int32) (x7 : Int32) (o : Int32), f_M_step_95 n B E O F x3 k x5 x6 x7 = some o → ∀ (H : Heap) (locs : List Loc) (ls : Array Slot), va_P (dC, dI) classes (mW cI cZ ad t n B E C O F L V) H → va_D A (mW cI cZ ad t n B E C O F L V) → va_S A s.heap H locs → lv_has ls 9 [(0, .ref (ad 0)), (3, .int x3), (5, .int x5), (6, .int x6), (7, .int x7)] →
    (∀ (H : Heap) (locs : List Loc) (ls : Array Slot), va_P (dC, dI) classes (mW cI cZ ad t n B E C O F L V) H → va_D A (mW cI cZ ad t n B E C O F L V) → va_S A s.heap H locs → lv_has ls 9 [(6, .int o)] → W p l e (headSpec w_M_step rm_M_step).room s m args below meth c H locs 0 0 Q (F0 m 193 ls [])) → W p l e (headSpec w_M_step rm_M_step).room s m args below meth c H locs 0 0 Q (F0 m 95 ls []) := by
  intro k
  induction k with
  | zero =>
    intro x5 x6 x7 o hf
    exact absurd (show none = some o from hf) (by simp)
  | succ k ih =>
    intro x5 x6 x7 o hf H locs ls hP hD hS hl hk
    rw [f_M_step_95] at hf
    refine lv_iload hx hb d_M_step_95 (lv_at hl 4 rfl) ?_
    refine lv_iload_n hx hb d_M_step_97 rfl (lv_at hl 1 rfl) ?_
    refine lv_icmp_gt (tgt := 193) hx hb d_M_step_98 (by decide) (fun hc => ?_) (fun hc => ?_)
    · rw [if_pos hc] at hf
      cases hf
      exact hk _ _ _ hP hD hS (lv_sub hl [3] rfl)
    · rw [if_neg hc] at hf
      refine lv_iconst (v := (-1)) hx hb d_M_step_101 (by decide) ?_
      refine lv_istore (lv' := [(6, .int (-1)), (0, .ref (ad 0)), (3, .int x3), (5, .int x5), (7, .int x7)]) hx hb d_M_step_102 hl (by decide) rfl (fun ls hl => ?_)
      refine lv_aload_n hx hb d_M_step_104 rfl (lv_at hl 1 rfl) ?_
      refine va_get (D := (dC, dI)) (ci := 1) (v := .int n) (C := R_M) (T := F_M) (N := 9) hx hb hts i_M hown hK hP 0 rfl rfl 1 (by decide) (hts _ fl_M_40) (fun _ h9 => h9) rfl d_M_step_105 ?_
      refine lv_iconst (v := 1) hx hb d_M_step_108 (by decide) ?_
      refine lv_isub hx hb d_M_step_109 ?_
      refine lv_istore (lv' := [(8, .int (n - 1)), (6, .int (-1)), (0, .ref (ad 0)), (3, .int x3), (5, .int x5), (7, .int x7)]) hx hb d_M_step_110 hl (by decide) rfl (fun ls hl => ?_)
      obtain ⟨o1, hco1, hf⟩ := fg_ob_some hf
      refine w_M_step_112 hx hb hml hown hts hK hA x3 x5 x7 t n B E C O F L V fu (-1) (n - 1) o1 hco1 _ _ _ hP hD hS (lv_sub hl [2, 3, 4, 1, 5, 0] rfl) (fun H locs ls hP hD hS hl => ?_)
      refine lv_aload_n hx hb d_M_step_178 rfl (lv_at hl 0 rfl) ?_
      refine va_get (D := (dC, dI)) (ci := 1) (v := .ref (ad 2)) (C := R_M) (T := F_M) (N := 9) hx hb hts i_M hown hK hP 0 rfl rfl 3 (by decide) (hts _ fl_M_13) (fun _ h9 => h9) rfl d_M_step_179 ?_
      refine lv_iload hx hb d_M_step_182 (lv_at hl 2 rfl) ?_
      obtain ⟨hi, hf⟩ := fg_og_some hf
      refine va_iald hx hb hK hP 2 0 rfl rfl (ix_in hi) d_M_step_184 ?_
      refine lv_istore (lv' := [(5, .int (E o1.toNatClampNeg)), (0, .ref (ad 0)), (3, .int x3), (6, .int o1), (7, .int x7)]) hx hb d_M_step_185 hl (by decide) rfl (fun ls hl => ?_)
      refine lv_iinc (v := x7 + 1) (lv' := [(7, .int (x7 + 1)), (5, .int (E o1.toNatClampNeg)), (0, .ref (ad 0)), (3, .int x3), (6, .int o1)]) hx hb d_M_step_187 hl (k := 4) rfl rfl (by decide) rfl (fun ls hl => ?_)
      refine lv_goto (tgt := 95) hx hb d_M_step_190 (by decide) ?_
      exact ih (E o1.toNatClampNeg) o1 (x7 + 1) _ hf _ _ _ hP hD hS (lv_sub hl [2, 3, 1, 4, 0] rfl) hk
set_option maxHeartbeats 4000000 in
set_option maxRecDepth 100000 in
theorem c_M_step (l : Launch) (dC : Nat → ClassId) (dI : Nat → Nat → Nat) (cI cZ : ClassId) (ad : Nat → Nat) (sz : Nat) (t : Int32) (n : Int32) (B : fg_A) (E : fg_A) (C : fg_A) (O : fg_A) (F : fg_A) (L : fg_A) (V : fg_A) (p0 : Int32) (p1 : Int32) (p2 : Int32) (o : Int32 × Int32 × fg_A) (hf : f_M_step t n B E O F p0 p1 p2 = some o) : Met l y_M_step w_M_step rm_M_step (mW_Pc dC dI cI cZ ad sz t n B E C O F L V [.ref (ad 0), .int p0, .int p1, .int p2]) (mW_Qi dC dI cI cZ ad (va_A (mW cI cZ ad t n B E C O F L V) sz) o.2.1 n B E C O o.2.2 L V o.1) 0 0 (va_A (mW cI cZ ad t n B E C O F L V) sz) := by
  refine Met.ofW (cc := b_M_step) (maxL := 9) (ret := (some .int)) (by decide) rfl ?_
  intro p e s m args below meth c s₁ Bd hml hv
  obtain ⟨rfl, hsz, hP, hK, hD0⟩ := hv
  have hx := Bd.exec
  have hb := Bd.bytes
  have hr := Bd.returns
  have hts := fun w h => atoms_spec (ws := w_M_step) Bd.pre w (List.mem_cons_of_mem _ h)
  have hown : s.vm.findClass R_M = some m.cls := findClass_of_methodNamed Bd.named
  have hlocks := Bd.notSynchronized
  subst hsz
  have hD := hD0.self (sz := s.heap.size)
  generalize hAe : va_A (mW cI cZ ad t n B E C O F L V) s.heap.size = A at hD ⊢
  have hA : ∀ q : Nat, s.heap.size ≤ q → A q := fun q h => by rw [← hAe]; exact Or.inr h
  have hS : va_S A s.heap s.heap [] := va_S.rf
  have hl := lv_entry ([.ref (ad 0), .int p0, .int p1, .int p2]) (n := 9) (Nat.le_of_ble_eq_true rfl)
  rw [lg_entry_eq]
  generalize (lg_sl ([.ref (ad 0), .int p0, .int p1, .int p2]) ++ List.replicate (9 - (lg_sl ([.ref (ad 0), .int p0, .int p1, .int p2])).length) Slot.unset).toArray = ls at hl ⊢
  have hl : lv_has ls 9 [(0, .ref (ad 0)), (1, .int p0), (2, .int p1), (3, .int p2)] := hl
  have hE : ∀ (pc : Nat) (H : Heap) (locs : List Loc) (ls : Array Slot), va_P (dC, dI) classes (mW cI cZ ad o.2.1 n B E C O o.2.2 L V) H → va_D A (mW cI cZ ad o.2.1 n B E C O o.2.2 L V) → va_S A s.heap H locs → decode b_M_step pc = .ok (.ireturn, 1) → W p l e (headSpec w_M_step rm_M_step).room s m ([.ref (ad 0), .int p0, .int p1, .int p2] : List Value).toArray below meth c H locs 0 0 (MQ below (mW_Qi dC dI cI cZ ad A o.2.1 n B E C O o.2.2 L V o.1) ([.ref (ad 0), .int p0, .int p1, .int p2] : List Value).toArray s 0 0 A) (F0 m pc ls [.int o.1]) := fun pc H locs ls hP hD hS hd => W.iret (v := o.1) hx hb hr (fun t ht hW => ⟨⟨o.1, (), rfl, rfl, by rw [ht]; exact hP, va_K.moved hW.alike hK, hD⟩, hS.F ht⟩) hS.2.2 hd
  unfold f_M_step at hf
  refine lv_iload_n hx hb d_M_step_0 rfl (lv_at hl 1 rfl) ?_
  obtain ⟨o1, hco1, hf⟩ := fg_ob_some hf
  refine fg_r0 (W.runS (As := [.int p0]) (rest := []) ⟨hx, hb, hml, hown, hts⟩ (c_M_isNode l p0 o1 hco1) (cwS 1 hts gs_M_43 rfl rfl rfl (by decide +kernel) ⟨Nat.le_of_ble_eq_true rfl, Nat.le_of_ble_eq_true rfl⟩) preEq rfl rfl hl.1 rfl (lv_room (Nat.le_of_ble_eq_true rfl)) d_M_step_1 ⟨Nat.le_of_ble_eq_true rfl, Nat.le_of_ble_eq_true rfl⟩) ?_
  refine lv_if_eq (tgt := 18) hx hb d_M_step_4 (by decide) (fun hc => ?_) (fun hc => ?_)
  · rw [if_pos hc] at hf
    refine lv_iconst (v := 0) hx hb d_M_step_18 (by decide) ?_
    refine lv_istore (lv' := [(4, .int 0), (0, .ref (ad 0)), (1, .int p0), (2, .int p1), (3, .int p2)]) hx hb d_M_step_19 hl (by decide) rfl (fun ls hl => ?_)
    refine lv_iload hx hb d_M_step_21 (lv_at hl 0 rfl) ?_
    refine lv_if_eq (tgt := 32) hx hb d_M_step_23 (by decide) (fun hc => ?_) (fun hc => ?_)
    · refine lv_aload_n hx hb d_M_step_32 rfl (lv_at hl 1 rfl) ?_
      refine lv_iload hx hb d_M_step_33 (lv_at hl 0 rfl) ?_
      refine lv_if_ne (tgt := 42) hx hb d_M_step_35 (by decide) (fun hc => ?_) (fun hc => ?_)
      · exact absurd hc (by decide)
      · refine lv_iconst (v := 1) hx hb d_M_step_38 (by decide) ?_
        refine lv_goto (tgt := 43) hx hb d_M_step_39 (by decide) ?_
        refine lv_iload hx hb d_M_step_43 (lv_at hl 0 rfl) ?_
        refine lv_if_eq (tgt := 77) hx hb d_M_step_45 (by decide) (fun hc => ?_) (fun hc => ?_)
        · refine lv_iconst (v := 0) hx hb d_M_step_77 (by decide) ?_
          obtain ⟨o2, hco2, hf⟩ := fg_ob_some hf
          refine fgM_i (va_runV (As := [.int 1, .int 0]) (rest := []) ⟨hx, hb, hml, hown, hts⟩ (c_M_refuse l dC dI cI cZ ad _ t n B E C O F L V 1 0 o2 hco2) (cwV 2 hts gv_M_47 rfl rfl rfl (by decide +kernel) ⟨Nat.le_of_ble_eq_true rfl, Nat.le_of_ble_eq_true rfl⟩) (mW_pre hK hP hD) rfl rfl hl.1 rfl (lv_room (Nat.le_of_ble_eq_true rfl)) d_M_step_78 ⟨Nat.le_of_ble_eq_true rfl, Nat.le_of_ble_eq_true rfl⟩) hP hD hS hA (fun H locs hP hD hS => ?_)
          refine lv_if_eq (tgt := 86) hx hb d_M_step_81 (by decide) (fun hc => ?_) (fun hc => ?_)
          · rw [if_pos hc] at hf
            refine lv_iload_n hx hb d_M_step_86 rfl (lv_at hl 2 rfl) ?_
            refine lv_istore (lv' := [(5, .int p0), (4, .int 0), (0, .ref (ad 0)), (1, .int p0), (2, .int p1), (3, .int p2)]) hx hb d_M_step_87 hl (by decide) rfl (fun ls hl => ?_)
            refine lv_iconst (v := (-1)) hx hb d_M_step_89 (by decide) ?_
            refine lv_istore (lv' := [(6, .int (-1)), (5, .int p0), (4, .int 0), (0, .ref (ad 0)), (1, .int p0), (2, .int p1), (3, .int p2)]) hx hb d_M_step_90 hl (by decide) rfl (fun ls hl => ?_)
            refine lv_iconst (v := 0) hx hb d_M_step_92 (by decide) ?_
            refine lv_istore (lv' := [(7, .int 0), (6, .int (-1)), (5, .int p0), (4, .int 0), (0, .ref (ad 0)), (1, .int p0), (2, .int p1), (3, .int p2)]) hx hb d_M_step_93 hl (by decide) rfl (fun ls hl => ?_)
            obtain ⟨o3, hco3, hf⟩ := fg_ob_some hf
            refine w_M_step_95 hx hb hml hown hts hK hA p2 o2.2 n B E C O F L V fu p0 (-1) 0 o3 hco3 _ _ _ hP hD hS (lv_sub hl [4, 7, 2, 1, 0] rfl) (fun H locs ls hP hD hS hl => ?_)
            refine lv_iload hx hb d_M_step_193 (lv_at hl 0 rfl) ?_
            cases hf
            exact hE _ _ _ _ hP hD hS d_M_step_195
          · rw [if_neg hc] at hf
            refine lv_iconst (v := 0) hx hb d_M_step_84 (by decide) ?_
            cases hf
            exact hE _ _ _ _ hP hD hS d_M_step_85
        · exact absurd hc (by decide)
    · exact absurd hc (by decide)
  · rw [if_neg hc] at hf
    refine lv_iload_n hx hb d_M_step_7 rfl (lv_at hl 2 rfl) ?_
    obtain ⟨o4, hco4, hf⟩ := fg_ob_some hf
    refine fg_r0 (W.runS (As := [.int p1]) (rest := []) ⟨hx, hb, hml, hown, hts⟩ (c_M_isNode l p1 o4 hco4) (cwS 1 hts gs_M_43 rfl rfl rfl (by decide +kernel) ⟨Nat.le_of_ble_eq_true rfl, Nat.le_of_ble_eq_true rfl⟩) preEq rfl rfl hl.1 rfl (lv_room (Nat.le_of_ble_eq_true rfl)) d_M_step_8 ⟨Nat.le_of_ble_eq_true rfl, Nat.le_of_ble_eq_true rfl⟩) ?_
    refine lv_if_eq (tgt := 18) hx hb d_M_step_11 (by decide) (fun hc => ?_) (fun hc => ?_)
    · rw [if_pos hc] at hf
      refine lv_iconst (v := 0) hx hb d_M_step_18 (by decide) ?_
      refine lv_istore (lv' := [(4, .int 0), (0, .ref (ad 0)), (1, .int p0), (2, .int p1), (3, .int p2)]) hx hb d_M_step_19 hl (by decide) rfl (fun ls hl => ?_)
      refine lv_iload hx hb d_M_step_21 (lv_at hl 0 rfl) ?_
      refine lv_if_eq (tgt := 32) hx hb d_M_step_23 (by decide) (fun hc => ?_) (fun hc => ?_)
      · refine lv_aload_n hx hb d_M_step_32 rfl (lv_at hl 1 rfl) ?_
        refine lv_iload hx hb d_M_step_33 (lv_at hl 0 rfl) ?_
        refine lv_if_ne (tgt := 42) hx hb d_M_step_35 (by decide) (fun hc => ?_) (fun hc => ?_)
        · exact absurd hc (by decide)
        · refine lv_iconst (v := 1) hx hb d_M_step_38 (by decide) ?_
          refine lv_goto (tgt := 43) hx hb d_M_step_39 (by decide) ?_
          refine lv_iload hx hb d_M_step_43 (lv_at hl 0 rfl) ?_
          refine lv_if_eq (tgt := 77) hx hb d_M_step_45 (by decide) (fun hc => ?_) (fun hc => ?_)
          · refine lv_iconst (v := 0) hx hb d_M_step_77 (by decide) ?_
            obtain ⟨o5, hco5, hf⟩ := fg_ob_some hf
            refine fgM_i (va_runV (As := [.int 1, .int 0]) (rest := []) ⟨hx, hb, hml, hown, hts⟩ (c_M_refuse l dC dI cI cZ ad _ t n B E C O F L V 1 0 o5 hco5) (cwV 2 hts gv_M_47 rfl rfl rfl (by decide +kernel) ⟨Nat.le_of_ble_eq_true rfl, Nat.le_of_ble_eq_true rfl⟩) (mW_pre hK hP hD) rfl rfl hl.1 rfl (lv_room (Nat.le_of_ble_eq_true rfl)) d_M_step_78 ⟨Nat.le_of_ble_eq_true rfl, Nat.le_of_ble_eq_true rfl⟩) hP hD hS hA (fun H locs hP hD hS => ?_)
            refine lv_if_eq (tgt := 86) hx hb d_M_step_81 (by decide) (fun hc => ?_) (fun hc => ?_)
            · rw [if_pos hc] at hf
              refine lv_iload_n hx hb d_M_step_86 rfl (lv_at hl 2 rfl) ?_
              refine lv_istore (lv' := [(5, .int p0), (4, .int 0), (0, .ref (ad 0)), (1, .int p0), (2, .int p1), (3, .int p2)]) hx hb d_M_step_87 hl (by decide) rfl (fun ls hl => ?_)
              refine lv_iconst (v := (-1)) hx hb d_M_step_89 (by decide) ?_
              refine lv_istore (lv' := [(6, .int (-1)), (5, .int p0), (4, .int 0), (0, .ref (ad 0)), (1, .int p0), (2, .int p1), (3, .int p2)]) hx hb d_M_step_90 hl (by decide) rfl (fun ls hl => ?_)
              refine lv_iconst (v := 0) hx hb d_M_step_92 (by decide) ?_
              refine lv_istore (lv' := [(7, .int 0), (6, .int (-1)), (5, .int p0), (4, .int 0), (0, .ref (ad 0)), (1, .int p0), (2, .int p1), (3, .int p2)]) hx hb d_M_step_93 hl (by decide) rfl (fun ls hl => ?_)
              obtain ⟨o6, hco6, hf⟩ := fg_ob_some hf
              refine w_M_step_95 hx hb hml hown hts hK hA p2 o5.2 n B E C O F L V fu p0 (-1) 0 o6 hco6 _ _ _ hP hD hS (lv_sub hl [4, 7, 2, 1, 0] rfl) (fun H locs ls hP hD hS hl => ?_)
              refine lv_iload hx hb d_M_step_193 (lv_at hl 0 rfl) ?_
              cases hf
              exact hE _ _ _ _ hP hD hS d_M_step_195
            · rw [if_neg hc] at hf
              refine lv_iconst (v := 0) hx hb d_M_step_84 (by decide) ?_
              cases hf
              exact hE _ _ _ _ hP hD hS d_M_step_85
          · exact absurd hc (by decide)
      · exact absurd hc (by decide)
    · rw [if_neg hc] at hf
      refine lv_iconst (v := 1) hx hb d_M_step_14 (by decide) ?_
      refine lv_goto (tgt := 19) hx hb d_M_step_15 (by decide) ?_
      refine lv_istore (lv' := [(4, .int 1), (0, .ref (ad 0)), (1, .int p0), (2, .int p1), (3, .int p2)]) hx hb d_M_step_19 hl (by decide) rfl (fun ls hl => ?_)
      refine lv_iload hx hb d_M_step_21 (lv_at hl 0 rfl) ?_
      refine lv_if_eq (tgt := 32) hx hb d_M_step_23 (by decide) (fun hc => ?_) (fun hc => ?_)
      · exact absurd hc (by decide)
      · refine lv_aload_n hx hb d_M_step_26 rfl (lv_at hl 1 rfl) ?_
        refine lv_iload_n hx hb d_M_step_27 rfl (lv_at hl 3 rfl) ?_
        refine lv_iconst (v := (-1)) hx hb d_M_step_28 (by decide) ?_
        obtain ⟨o7, hco7, hf⟩ := fg_ob_some hf
        refine fgM_v (va_runV (As := [.int p1, .int (-1)]) (rest := []) ⟨hx, hb, hml, hown, hts⟩ (c_M_measure l dC dI cI cZ ad _ t n B E C O F L V p1 (-1) o7 hco7) (cwV 2 hts gv_M_51 rfl rfl rfl (by decide +kernel) ⟨Nat.le_of_ble_eq_true rfl, Nat.le_of_ble_eq_true rfl⟩) (mW_pre hK hP hD) rfl rfl hl.1 rfl (lv_room (Nat.le_of_ble_eq_true rfl)) d_M_step_29 ⟨Nat.le_of_ble_eq_true rfl, Nat.le_of_ble_eq_true rfl⟩) hP hD hS hA (fun H locs hP hD hS => ?_)
        refine lv_aload_n hx hb d_M_step_32 rfl (lv_at hl 1 rfl) ?_
        refine lv_iload hx hb d_M_step_33 (lv_at hl 0 rfl) ?_
        refine lv_if_ne (tgt := 42) hx hb d_M_step_35 (by decide) (fun hc => ?_) (fun hc => ?_)
        · refine lv_iconst (v := 0) hx hb d_M_step_42 (by decide) ?_
          refine lv_iload hx hb d_M_step_43 (lv_at hl 0 rfl) ?_
          refine lv_if_eq (tgt := 77) hx hb d_M_step_45 (by decide) (fun hc => ?_) (fun hc => ?_)
          · exact absurd hc (by decide)
          · refine lv_iload_n hx hb d_M_step_48 rfl (lv_at hl 4 rfl) ?_
            refine lv_iconst (v := 0) hx hb d_M_step_49 (by decide) ?_
            refine lv_aload_n hx hb d_M_step_50 rfl (lv_at hl 1 rfl) ?_
            refine va_get (D := (dC, dI)) (ci := 1) (v := .ref (ad 5)) (C := R_M) (T := F_M) (N := 9) hx hb hts i_M hown hK hP 0 rfl rfl 6 (by decide) (hts _ fl_M_23) (fun _ h9 => h9) rfl d_M_step_51 ?_
            refine lv_iload hx hb d_M_step_54 (lv_at hl 0 rfl) ?_
            refine lv_if_eq (tgt := 63) hx hb d_M_step_56 (by decide) (fun hc => ?_) (fun hc => ?_)
            · exact absurd hc (by decide)
            · refine lv_iload_n hx hb d_M_step_59 rfl (lv_at hl 2 rfl) ?_
              refine lv_goto (tgt := 64) hx hb d_M_step_60 (by decide) ?_
              obtain ⟨hi, hf⟩ := fg_og_some hf
              refine va_iald hx hb hK hP 5 0 rfl rfl (ix_in hi) d_M_step_64 ?_
              refine lv_iconst (v := 1) hx hb d_M_step_65 (by decide) ?_
              refine lv_isub hx hb d_M_step_66 ?_
              obtain ⟨o8, hco8, hf⟩ := fg_ob_some hf
              refine fg_r0 (W.runS (As := [.int p2, .int 0, .int ((o7 p0.toNatClampNeg) - 1)]) (rest := [.int 0, .ref (ad 0)]) ⟨hx, hb, hml, hown, hts⟩ (c_M_in l p2 0 ((o7 p0.toNatClampNeg) - 1) o8 hco8) (cwS 3 hts gs_M_36 rfl rfl rfl (by decide +kernel) ⟨Nat.le_of_ble_eq_true rfl, Nat.le_of_ble_eq_true rfl⟩) preEq rfl rfl hl.1 rfl (lv_room (Nat.le_of_ble_eq_true rfl)) d_M_step_67 ⟨Nat.le_of_ble_eq_true rfl, Nat.le_of_ble_eq_true rfl⟩) ?_
              refine lv_if_ne (tgt := 77) hx hb d_M_step_70 (by decide) (fun hc => ?_) (fun hc => ?_)
              · rw [if_neg hc] at hf
                refine lv_iconst (v := 0) hx hb d_M_step_77 (by decide) ?_
                obtain ⟨o9, hco9, hf⟩ := fg_ob_some hf
                refine fgM_i (va_runV (As := [.int 0, .int 0]) (rest := []) ⟨hx, hb, hml, hown, hts⟩ (c_M_refuse l dC dI cI cZ ad _ t n B E C O o7 L V 0 0 o9 hco9) (cwV 2 hts gv_M_47 rfl rfl rfl (by decide +kernel) ⟨Nat.le_of_ble_eq_true rfl, Nat.le_of_ble_eq_true rfl⟩) (mW_pre hK hP hD) rfl rfl hl.1 rfl (lv_room (Nat.le_of_ble_eq_true rfl)) d_M_step_78 ⟨Nat.le_of_ble_eq_true rfl, Nat.le_of_ble_eq_true rfl⟩) hP hD hS hA (fun H locs hP hD hS => ?_)
                refine lv_if_eq (tgt := 86) hx hb d_M_step_81 (by decide) (fun hc => ?_) (fun hc => ?_)
                · rw [if_pos hc] at hf
                  refine lv_iload_n hx hb d_M_step_86 rfl (lv_at hl 2 rfl) ?_
                  refine lv_istore (lv' := [(5, .int p0), (4, .int 1), (0, .ref (ad 0)), (1, .int p0), (2, .int p1), (3, .int p2)]) hx hb d_M_step_87 hl (by decide) rfl (fun ls hl => ?_)
                  refine lv_iconst (v := (-1)) hx hb d_M_step_89 (by decide) ?_
                  refine lv_istore (lv' := [(6, .int (-1)), (5, .int p0), (4, .int 1), (0, .ref (ad 0)), (1, .int p0), (2, .int p1), (3, .int p2)]) hx hb d_M_step_90 hl (by decide) rfl (fun ls hl => ?_)
                  refine lv_iconst (v := 0) hx hb d_M_step_92 (by decide) ?_
                  refine lv_istore (lv' := [(7, .int 0), (6, .int (-1)), (5, .int p0), (4, .int 1), (0, .ref (ad 0)), (1, .int p0), (2, .int p1), (3, .int p2)]) hx hb d_M_step_93 hl (by decide) rfl (fun ls hl => ?_)
                  obtain ⟨o10, hco10, hf⟩ := fg_ob_some hf
                  refine w_M_step_95 hx hb hml hown hts hK hA p2 o9.2 n B E C O o7 L V fu p0 (-1) 0 o10 hco10 _ _ _ hP hD hS (lv_sub hl [4, 7, 2, 1, 0] rfl) (fun H locs ls hP hD hS hl => ?_)
                  refine lv_iload hx hb d_M_step_193 (lv_at hl 0 rfl) ?_
                  cases hf
                  exact hE _ _ _ _ hP hD hS d_M_step_195
                · rw [if_neg hc] at hf
                  refine lv_iconst (v := 0) hx hb d_M_step_84 (by decide) ?_
                  cases hf
                  exact hE _ _ _ _ hP hD hS d_M_step_85
              · rw [if_pos hc] at hf
                refine lv_iconst (v := 1) hx hb d_M_step_73 (by decide) ?_
                refine lv_goto (tgt := 78) hx hb d_M_step_74 (by decide) ?_
                obtain ⟨o11, hco11, hf⟩ := fg_ob_some hf
                refine fgM_i (va_runV (As := [.int 0, .int 1]) (rest := []) ⟨hx, hb, hml, hown, hts⟩ (c_M_refuse l dC dI cI cZ ad _ t n B E C O o7 L V 0 1 o11 hco11) (cwV 2 hts gv_M_47 rfl rfl rfl (by decide +kernel) ⟨Nat.le_of_ble_eq_true rfl, Nat.le_of_ble_eq_true rfl⟩) (mW_pre hK hP hD) rfl rfl hl.1 rfl (lv_room (Nat.le_of_ble_eq_true rfl)) d_M_step_78 ⟨Nat.le_of_ble_eq_true rfl, Nat.le_of_ble_eq_true rfl⟩) hP hD hS hA (fun H locs hP hD hS => ?_)
                refine lv_if_eq (tgt := 86) hx hb d_M_step_81 (by decide) (fun hc => ?_) (fun hc => ?_)
                · rw [if_pos hc] at hf
                  refine lv_iload_n hx hb d_M_step_86 rfl (lv_at hl 2 rfl) ?_
                  refine lv_istore (lv' := [(5, .int p0), (4, .int 1), (0, .ref (ad 0)), (1, .int p0), (2, .int p1), (3, .int p2)]) hx hb d_M_step_87 hl (by decide) rfl (fun ls hl => ?_)
                  refine lv_iconst (v := (-1)) hx hb d_M_step_89 (by decide) ?_
                  refine lv_istore (lv' := [(6, .int (-1)), (5, .int p0), (4, .int 1), (0, .ref (ad 0)), (1, .int p0), (2, .int p1), (3, .int p2)]) hx hb d_M_step_90 hl (by decide) rfl (fun ls hl => ?_)
                  refine lv_iconst (v := 0) hx hb d_M_step_92 (by decide) ?_
                  refine lv_istore (lv' := [(7, .int 0), (6, .int (-1)), (5, .int p0), (4, .int 1), (0, .ref (ad 0)), (1, .int p0), (2, .int p1), (3, .int p2)]) hx hb d_M_step_93 hl (by decide) rfl (fun ls hl => ?_)
                  obtain ⟨o12, hco12, hf⟩ := fg_ob_some hf
                  refine w_M_step_95 hx hb hml hown hts hK hA p2 o11.2 n B E C O o7 L V fu p0 (-1) 0 o12 hco12 _ _ _ hP hD hS (lv_sub hl [4, 7, 2, 1, 0] rfl) (fun H locs ls hP hD hS hl => ?_)
                  refine lv_iload hx hb d_M_step_193 (lv_at hl 0 rfl) ?_
                  cases hf
                  exact hE _ _ _ _ hP hD hS d_M_step_195
                · rw [if_neg hc] at hf
                  refine lv_iconst (v := 0) hx hb d_M_step_84 (by decide) ?_
                  cases hf
                  exact hE _ _ _ _ hP hD hS d_M_step_85
        · exact absurd hc (by decide)
