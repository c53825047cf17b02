set_option maxHeartbeats 4000000 in
set_option maxRecDepth 100000 in
theorem w_M_cutRule_40 {p : Program} {l : Launch} {e : Env} {s : State} {m : MethodId} {args : Array Value} {below : List Frame} {meth : Method} {c : Code} {Q : State → Prop} {A : Nat → Prop} {dC : Nat → ClassId} {dI : Nat → Nat → Nat} {cI cZ : ClassId} {ad : Nat → Nat} (hx : p.tables.exec = Jvm.exec) (hb : c.code = b_M_cutRule) (hml : c.maxLocals = 6) (hown : s.vm.findClass R_M = some m.cls) (hts : ∀ w ∈ gw, w.before args s = true) (hK : va_K (dC, dI) classes (gT cI cZ) s) (hA : ∀ q : Nat, s.heap.size ≤ q → A q) (x3 : Int32) (t : Int32) (n : Int32) (B : fg_A) (E : fg_A) (C : fg_A) (O : fg_A) (F : fg_A) (L : fg_A) (V : fg_A) :
    ∀ (k : Nat) (x4 : Int32) (x5 : Int32) (o : Int32 × Int32 × fg_A × fg_A), f_M_cutRule_40 t n B E C O L V x3 k x4 x5 = some o → ∀ (H : Heap) (locs : List Loc) (ls : Array Slot), va_P (dC, dI) classes (mW cI cZ ad t n B E C O F L V) H → va_D A (mW cI cZ ad t n B E C O F L V) → va_S A s.heap H locs → lv_has ls 6 [(0, .ref (ad 0)), (3, .int x3), (4, .int x4), (5, .int x5)] →
    (∀ (pc : Nat) (H : Heap) (locs : List Loc) (ls : Array Slot), va_P (dC, dI) classes (mW cI cZ ad o.2.1 n B E C O F o.2.2.1 o.2.2.2) H → va_D A (mW cI cZ ad o.2.1 n B E C O F o.2.2.1 o.2.2.2) → va_S A s.heap H locs → decode b_M_cutRule pc = .ok (.ireturn, 1) → W p l e (headSpec w_M_cutRule rm_M_cutRule).room s m args below meth c H locs 0 0 Q (F0 m pc ls [.int o.1])) → W p l e (headSpec w_M_cutRule rm_M_cutRule).room s m args below meth c H locs 0 0 Q (F0 m 40 ls []) := by
  intro k
  induction k with
  | zero =>
    intro x4 x5 o hf
    exact absurd (show none = some o from hf) (by simp)
  | succ k ih =>
    intro x4 x5 o hf H locs ls hP hD hS hl hE
    rw [f_M_cutRule_40] at hf
    refine lv_iload hx hb d_M_cutRule_40 (lv_at hl 3 rfl) ?_
    refine lv_aload_n hx hb d_M_cutRule_42 rfl (lv_at hl 0 rfl) ?_
    refine va_get (D := (dC, dI)) (ci := 1) (v := .int n) (C := R_M) (T := F_M) (N := 9) hx hb hts i_M hown hK hP 0 rfl rfl 1 (by decide) (hts _ fl_M_40) (fun _ h9 => h9) rfl d_M_cutRule_43 ?_
    refine lv_icmp_ge (tgt := 107) hx hb d_M_cutRule_46 (by decide) (fun hc => ?_) (fun hc => ?_)
    · rw [if_pos hc] at hf
      refine lv_iconst (v := (-1)) hx hb d_M_cutRule_107 (by decide) ?_
      cases hf
      exact hE _ _ _ _ hP hD hS d_M_cutRule_108
    · rw [if_neg hc] at hf
      refine lv_aload_n hx hb d_M_cutRule_49 rfl (lv_at hl 0 rfl) ?_
      refine va_get (D := (dC, dI)) (ci := 1) (v := .ref (ad 4)) (C := R_M) (T := F_M) (N := 9) hx hb hts i_M hown hK hP 0 rfl rfl 5 (by decide) (hts _ fl_M_19) (fun _ h9 => h9) rfl d_M_cutRule_50 ?_
      refine lv_iload hx hb d_M_cutRule_53 (lv_at hl 3 rfl) ?_
      obtain ⟨hi, hf⟩ := fg_og_some hf
      refine va_zald hx hb hK hP 4 1 rfl rfl (ix_in hi) d_M_cutRule_55 ?_
      refine lv_if_eq (tgt := 101) hx hb d_M_cutRule_56 (by decide) (fun hc => ?_) (fun hc => ?_)
      · rw [if_pos hc] at hf
        refine lv_iinc (v := x5 + 1) (lv' := [(5, .int (x5 + 1)), (0, .ref (ad 0)), (3, .int x3), (4, .int x4)]) hx hb d_M_cutRule_101 hl (k := 3) rfl rfl (by decide) rfl (fun ls hl => ?_)
        refine lv_goto (tgt := 40) hx hb d_M_cutRule_104 (by decide) ?_
        exact ih x4 (x5 + 1) _ hf _ _ _ hP hD hS (lv_sub hl [1, 2, 3, 0] rfl) hE
      · rw [if_neg hc] at hf
        refine lv_aload_n hx hb d_M_cutRule_59 rfl (lv_at hl 0 rfl) ?_
        refine va_get (D := (dC, dI)) (ci := 1) (v := .ref (ad 7)) (C := R_M) (T := F_M) (N := 9) hx hb hts i_M hown hK hP 0 rfl rfl 8 (by decide) (hts _ fl_M_29) (fun _ h9 => h9) rfl d_M_cutRule_60 ?_
        refine lv_aload_n hx hb d_M_cutRule_63 rfl (lv_at hl 0 rfl) ?_
        refine va_get (D := (dC, dI)) (ci := 1) (v := .ref (ad 1)) (C := R_M) (T := F_M) (N := 9) hx hb hts i_M hown hK hP 0 rfl rfl 2 (by decide) (hts _ fl_M_7) (fun _ h9 => h9) rfl d_M_cutRule_64 ?_
        refine lv_iload hx hb d_M_cutRule_67 (lv_at hl 3 rfl) ?_
        obtain ⟨hi, hf⟩ := fg_og_some hf
        refine va_iald hx hb hK hP 1 0 rfl rfl (ix_in hi) d_M_cutRule_69 ?_
        obtain ⟨hi, hf⟩ := fg_og_some hf
        refine va_iald hx hb hK hP 7 0 rfl rfl (ix_in hi) d_M_cutRule_70 ?_
        refine lv_if_le (tgt := 101) hx hb d_M_cutRule_71 (by decide) (fun hc => ?_) (fun hc => ?_)
        · rw [if_pos hc] at hf
          refine lv_iinc (v := x5 + 1) (lv' := [(5, .int (x5 + 1)), (0, .ref (ad 0)), (3, .int x3), (4, .int x4)]) hx hb d_M_cutRule_101 hl (k := 3) rfl rfl (by decide) rfl (fun ls hl => ?_)
          refine lv_goto (tgt := 40) hx hb d_M_cutRule_104 (by decide) ?_
          exact ih x4 (x5 + 1) _ hf _ _ _ hP hD hS (lv_sub hl [1, 2, 3, 0] rfl) hE
        · rw [if_neg hc] at hf
          refine lv_aload_n hx hb d_M_cutRule_74 rfl (lv_at hl 0 rfl) ?_
          refine va_get (D := (dC, dI)) (ci := 1) (v := .ref (ad 7)) (C := R_M) (T := F_M) (N := 9) hx hb hts i_M hown hK hP 0 rfl rfl 8 (by decide) (hts _ fl_M_29) (fun _ h9 => h9) rfl d_M_cutRule_75 ?_
          refine lv_aload_n hx hb d_M_cutRule_78 rfl (lv_at hl 0 rfl) ?_
          refine va_get (D := (dC, dI)) (ci := 1) (v := .ref (ad 2)) (C := R_M) (T := F_M) (N := 9) hx hb hts i_M hown hK hP 0 rfl rfl 3 (by decide) (hts _ fl_M_13) (fun _ h9 => h9) rfl d_M_cutRule_79 ?_
          refine lv_iload hx hb d_M_cutRule_82 (lv_at hl 3 rfl) ?_
          obtain ⟨hi, hf⟩ := fg_og_some hf
          refine va_iald hx hb hK hP 2 0 rfl rfl (ix_in hi) d_M_cutRule_84 ?_
          obtain ⟨hi, hf⟩ := fg_og_some hf
          refine va_iald hx hb hK hP 7 0 rfl rfl (ix_in hi) d_M_cutRule_85 ?_
          refine lv_if_ne (tgt := 101) hx hb d_M_cutRule_86 (by decide) (fun hc => ?_) (fun hc => ?_)
          · rw [if_neg hc] at hf
            refine lv_iinc (v := x5 + 1) (lv' := [(5, .int (x5 + 1)), (0, .ref (ad 0)), (3, .int x3), (4, .int x4)]) hx hb d_M_cutRule_101 hl (k := 3) rfl rfl (by decide) rfl (fun ls hl => ?_)
            refine lv_goto (tgt := 40) hx hb d_M_cutRule_104 (by decide) ?_
            exact ih x4 (x5 + 1) _ hf _ _ _ hP hD hS (lv_sub hl [1, 2, 3, 0] rfl) hE
          · rw [if_pos hc] at hf
            refine lv_iload hx hb d_M_cutRule_89 (lv_at hl 2 rfl) ?_
            refine lv_iload_n hx hb d_M_cutRule_91 rfl (lv_at hl 1 rfl) ?_
            refine lv_icmp_ne (tgt := 98) hx hb d_M_cutRule_92 (by decide) (fun hc => ?_) (fun hc => ?_)
            · rw [if_neg hc] at hf
              refine lv_iinc (v := x4 + 1) (lv' := [(4, .int (x4 + 1)), (0, .ref (ad 0)), (3, .int x3), (5, .int x5)]) hx hb d_M_cutRule_98 hl (k := 2) rfl rfl (by decide) rfl (fun ls hl => ?_)
              refine lv_iinc (v := x5 + 1) (lv' := [(5, .int (x5 + 1)), (4, .int (x4 + 1)), (0, .ref (ad 0)), (3, .int x3)]) hx hb d_M_cutRule_101 hl (k := 3) rfl rfl (by decide) rfl (fun ls hl => ?_)
              refine lv_goto (tgt := 40) hx hb d_M_cutRule_104 (by decide) ?_
              exact ih (x4 + 1) (x5 + 1) _ hf _ _ _ hP hD hS (lv_sub hl [2, 3, 1, 0] rfl) hE
            · rw [if_pos hc] at hf
              refine lv_iload hx hb d_M_cutRule_95 (lv_at hl 3 rfl) ?_
              cases hf
              exact hE _ _ _ _ hP hD hS d_M_cutRule_97
set_option maxHeartbeats 4000000 in
set_option maxRecDepth 100000 in
theorem c_M_cutRule (l : Launch) (dC : Nat → ClassId) (dI : Nat → Nat → Nat) (cI cZ : ClassId) (ad : Nat → Nat) (sz : Nat) (t : Int32) (n : Int32) (B : fg_A) (E : fg_A) (C : fg_A) (O : fg_A) (F : fg_A) (L : fg_A) (V : fg_A) (p0 : Int32) (p1 : Int32) (p2 : Int32) (o : Int32 × Int32 × fg_A × fg_A) (hf : f_M_cutRule t n B E C O L V p0 p1 p2 = some o) : Met l y_M_cutRule w_M_cutRule rm_M_cutRule (mW_Pc dC dI cI cZ ad sz t n B E C O F L V [.ref (ad 0), .int p0, .int p1, .int p2]) (mW_Qi dC dI cI cZ ad (va_A (mW cI cZ ad t n B E C O F L V) sz) o.2.1 n B E C O F o.2.2.1 o.2.2.2 o.1) 0 0 (va_A (mW cI cZ ad t n B E C O F L V) sz) := by
  refine Met.ofW (cc := b_M_cutRule) (maxL := 6) (ret := (some .int)) (by decide) rfl ?_
  intro p e s m args below meth c s₁ Bd hml hv
  obtain ⟨rfl, hsz, hP, hK, hD0⟩ := hv
  have hx := Bd.exec
  have hb := Bd.bytes
  have hr := Bd.returns
  have hts := fun w h => atoms_spec (ws := w_M_cutRule) Bd.pre w (List.mem_cons_of_mem _ h)
  have hown : s.vm.findClass R_M = some m.cls := findClass_of_methodNamed Bd.named
  have hlocks := Bd.notSynchronized
  subst hsz
  have hD := hD0.self (sz := s.heap.size)
  generalize hAe : va_A (mW cI cZ ad t n B E C O F L V) s.heap.size = A at hD ⊢
  have hA : ∀ q : Nat, s.heap.size ≤ q → A q := fun q h => by rw [← hAe]; exact Or.inr h
  have hS : va_S A s.heap s.heap [] := va_S.rf
  have hl := lv_entry ([.ref (ad 0), .int p0, .int p1, .int p2]) (n := 6) (Nat.le_of_ble_eq_true rfl)
  rw [lg_entry_eq]
  generalize (lg_sl ([.ref (ad 0), .int p0, .int p1, .int p2]) ++ List.replicate (6 - (lg_sl ([.ref (ad 0), .int p0, .int p1, .int p2])).length) Slot.unset).toArray = ls at hl ⊢
  have hl : lv_has ls 6 [(0, .ref (ad 0)), (1, .int p0), (2, .int p1), (3, .int p2)] := hl
  have hE : ∀ (pc : Nat) (H : Heap) (locs : List Loc) (ls : Array Slot), va_P (dC, dI) classes (mW cI cZ ad o.2.1 n B E C O F o.2.2.1 o.2.2.2) H → va_D A (mW cI cZ ad o.2.1 n B E C O F o.2.2.1 o.2.2.2) → va_S A s.heap H locs → decode b_M_cutRule pc = .ok (.ireturn, 1) → W p l e (headSpec w_M_cutRule rm_M_cutRule).room s m ([.ref (ad 0), .int p0, .int p1, .int p2] : List Value).toArray below meth c H locs 0 0 (MQ below (mW_Qi dC dI cI cZ ad A o.2.1 n B E C O F o.2.2.1 o.2.2.2 o.1) ([.ref (ad 0), .int p0, .int p1, .int p2] : List Value).toArray s 0 0 A) (F0 m pc ls [.int o.1]) := fun pc H locs ls hP hD hS hd => W.iret (v := o.1) hx hb hr (fun t ht hW => ⟨⟨o.1, (), rfl, rfl, by rw [ht]; exact hP, va_K.moved hW.alike hK, hD⟩, hS.F ht⟩) hS.2.2 hd
  unfold f_M_cutRule at hf
  refine lv_aload_n hx hb d_M_cutRule_0 rfl (lv_at hl 0 rfl) ?_
  refine lv_iload_n hx hb d_M_cutRule_1 rfl (lv_at hl 1 rfl) ?_
  refine lv_iload_n hx hb d_M_cutRule_2 rfl (lv_at hl 2 rfl) ?_
  obtain ⟨o1, hco1, hf⟩ := fg_ob_some hf
  refine fg_r0 (W.runS (As := [.int p0, .int p1]) (rest := [.ref (ad 0)]) ⟨hx, hb, hml, hown, hts⟩ (c_M_areUnlike l p0 p1 o1 hco1) (cwS 2 hts gs_M_69 rfl rfl rfl (by decide +kernel) ⟨Nat.le_of_ble_eq_true rfl, Nat.le_of_ble_eq_true rfl⟩) preEq rfl rfl hl.1 rfl (lv_room (Nat.le_of_ble_eq_true rfl)) d_M_cutRule_3 ⟨Nat.le_of_ble_eq_true rfl, Nat.le_of_ble_eq_true rfl⟩) ?_
  refine lv_if_eq (tgt := 13) hx hb d_M_cutRule_6 (by decide) (fun hc => ?_) (fun hc => ?_)
  · rw [if_pos hc] at hf
    refine lv_iconst (v := 1) hx hb d_M_cutRule_13 (by decide) ?_
    refine lv_goto (tgt := 18) hx hb d_M_cutRule_14 (by decide) ?_
    refine lv_iconst (v := 0) hx hb d_M_cutRule_18 (by decide) ?_
    obtain ⟨o2, hco2, hf⟩ := fg_ob_some hf
    refine fgM_i (va_runV (As := [.int 1, .int 0]) (rest := []) ⟨hx, hb, hml, hown, hts⟩ (c_M_refuse l dC dI cI cZ ad _ t n B E C O F L V 1 0 o2 hco2) (cwV 2 hts gv_M_47 rfl rfl rfl (by decide +kernel) ⟨Nat.le_of_ble_eq_true rfl, Nat.le_of_ble_eq_true rfl⟩) (mW_pre hK hP hD) rfl rfl hl.1 rfl (lv_room (Nat.le_of_ble_eq_true rfl)) d_M_cutRule_19 ⟨Nat.le_of_ble_eq_true rfl, Nat.le_of_ble_eq_true rfl⟩) hP hD hS hA (fun H locs hP hD hS => ?_)
    refine lv_if_eq (tgt := 27) hx hb d_M_cutRule_22 (by decide) (fun hc => ?_) (fun hc => ?_)
    · rw [if_pos hc] at hf
      refine lv_aload_n hx hb d_M_cutRule_27 rfl (lv_at hl 0 rfl) ?_
      refine lv_iload_n hx hb d_M_cutRule_28 rfl (lv_at hl 1 rfl) ?_
      refine lv_iload_n hx hb d_M_cutRule_29 rfl (lv_at hl 2 rfl) ?_
      obtain ⟨o3, hco3, hf⟩ := fg_ob_some hf
      refine fgM_i (va_runV (As := [.int p0, .int p1]) (rest := []) ⟨hx, hb, hml, hown, hts⟩ (c_M_flow l dC dI cI cZ ad _ o2.2 n B E C O F L V p0 p1 o3 hco3) (cwV 2 hts gv_M_73 rfl rfl rfl (by decide +kernel) ⟨Nat.le_of_ble_eq_true rfl, Nat.le_of_ble_eq_true rfl⟩) (mW_pre hK hP hD) rfl rfl hl.1 rfl (lv_room (Nat.le_of_ble_eq_true rfl)) d_M_cutRule_30 ⟨Nat.le_of_ble_eq_true rfl, Nat.le_of_ble_eq_true rfl⟩) hP hD hS hA (fun H locs hP hD hS => ?_)
      refine lv_pop hx hb d_M_cutRule_33 rfl ?_
      refine lv_iconst (v := 0) hx hb d_M_cutRule_34 (by decide) ?_
      refine lv_istore (lv' := [(4, .int 0), (0, .ref (ad 0)), (1, .int p0), (2, .int p1), (3, .int p2)]) hx hb d_M_cutRule_35 hl (by decide) rfl (fun ls hl => ?_)
      refine lv_iconst (v := 0) hx hb d_M_cutRule_37 (by decide) ?_
      refine lv_istore (lv' := [(5, .int 0), (4, .int 0), (0, .ref (ad 0)), (1, .int p0), (2, .int p1), (3, .int p2)]) hx hb d_M_cutRule_38 hl (by decide) rfl (fun ls hl => ?_)
      exact w_M_cutRule_40 hx hb hml hown hts hK hA p2 o2.2 n B E C O F o3.2.1 o3.2.2 fu 0 0 _ hf _ _ _ hP hD hS (lv_sub hl [2, 5, 1, 0] rfl) hE
    · rw [if_neg hc] at hf
      refine lv_iconst (v := 0) hx hb d_M_cutRule_25 (by decide) ?_
      cases hf
      exact hE _ _ _ _ hP hD hS d_M_cutRule_26
  · rw [if_neg hc] at hf
    refine lv_iload_n hx hb d_M_cutRule_9 rfl (lv_at hl 3 rfl) ?_
    refine lv_if_ge (tgt := 17) hx hb d_M_cutRule_10 (by decide) (fun hc => ?_) (fun hc => ?_)
    · rw [if_pos hc] at hf
      refine lv_iconst (v := 0) hx hb d_M_cutRule_17 (by decide) ?_
      refine lv_iconst (v := 0) hx hb d_M_cutRule_18 (by decide) ?_
      obtain ⟨o4, hco4, hf⟩ := fg_ob_some hf
      refine fgM_i (va_runV (As := [.int 0, .int 0]) (rest := []) ⟨hx, hb, hml, hown, hts⟩ (c_M_refuse l dC dI cI cZ ad _ t n B E C O F L V 0 0 o4 hco4) (cwV 2 hts gv_M_47 rfl rfl rfl (by decide +kernel) ⟨Nat.le_of_ble_eq_true rfl, Nat.le_of_ble_eq_true rfl⟩) (mW_pre hK hP hD) rfl rfl hl.1 rfl (lv_room (Nat.le_of_ble_eq_true rfl)) d_M_cutRule_19 ⟨Nat.le_of_ble_eq_true rfl, Nat.le_of_ble_eq_true rfl⟩) hP hD hS hA (fun H locs hP hD hS => ?_)
      refine lv_if_eq (tgt := 27) hx hb d_M_cutRule_22 (by decide) (fun hc => ?_) (fun hc => ?_)
      · rw [if_pos hc] at hf
        refine lv_aload_n hx hb d_M_cutRule_27 rfl (lv_at hl 0 rfl) ?_
        refine lv_iload_n hx hb d_M_cutRule_28 rfl (lv_at hl 1 rfl) ?_
        refine lv_iload_n hx hb d_M_cutRule_29 rfl (lv_at hl 2 rfl) ?_
        obtain ⟨o5, hco5, hf⟩ := fg_ob_some hf
        refine fgM_i (va_runV (As := [.int p0, .int p1]) (rest := []) ⟨hx, hb, hml, hown, hts⟩ (c_M_flow l dC dI cI cZ ad _ o4.2 n B E C O F L V p0 p1 o5 hco5) (cwV 2 hts gv_M_73 rfl rfl rfl (by decide +kernel) ⟨Nat.le_of_ble_eq_true rfl, Nat.le_of_ble_eq_true rfl⟩) (mW_pre hK hP hD) rfl rfl hl.1 rfl (lv_room (Nat.le_of_ble_eq_true rfl)) d_M_cutRule_30 ⟨Nat.le_of_ble_eq_true rfl, Nat.le_of_ble_eq_true rfl⟩) hP hD hS hA (fun H locs hP hD hS => ?_)
        refine lv_pop hx hb d_M_cutRule_33 rfl ?_
        refine lv_iconst (v := 0) hx hb d_M_cutRule_34 (by decide) ?_
        refine lv_istore (lv' := [(4, .int 0), (0, .ref (ad 0)), (1, .int p0), (2, .int p1), (3, .int p2)]) hx hb d_M_cutRule_35 hl (by decide) rfl (fun ls hl => ?_)
        refine lv_iconst (v := 0) hx hb d_M_cutRule_37 (by decide) ?_
        refine lv_istore (lv' := [(5, .int 0), (4, .int 0), (0, .ref (ad 0)), (1, .int p0), (2, .int p1), (3, .int p2)]) hx hb d_M_cutRule_38 hl (by decide) rfl (fun ls hl => ?_)
        exact w_M_cutRule_40 hx hb hml hown hts hK hA p2 o4.2 n B E C O F o5.2.1 o5.2.2 fu 0 0 _ hf _ _ _ hP hD hS (lv_sub hl [2, 5, 1, 0] rfl) hE
      · rw [if_neg hc] at hf
        refine lv_iconst (v := 0) hx hb d_M_cutRule_25 (by decide) ?_
        cases hf
        exact hE _ _ _ _ hP hD hS d_M_cutRule_26
    · rw [if_neg hc] at hf
      refine lv_iconst (v := 1) hx hb d_M_cutRule_13 (by decide) ?_
      refine lv_goto (tgt := 18) hx hb d_M_cutRule_14 (by decide) ?_
      refine lv_iconst (v := 0) hx hb d_M_cutRule_18 (by decide) ?_
      obtain ⟨o6, hco6, hf⟩ := fg_ob_some hf
      refine fgM_i (va_runV (As := [.int 1, .int 0]) (rest := []) ⟨hx, hb, hml, hown, hts⟩ (c_M_refuse l dC dI cI cZ ad _ t n B E C O F L V 1 0 o6 hco6) (cwV 2 hts gv_M_47 rfl rfl rfl (by decide +kernel) ⟨Nat.le_of_ble_eq_true rfl, Nat.le_of_ble_eq_true rfl⟩) (mW_pre hK hP hD) rfl rfl hl.1 rfl (lv_room (Nat.le_of_ble_eq_true rfl)) d_M_cutRule_19 ⟨Nat.le_of_ble_eq_true rfl, Nat.le_of_ble_eq_true rfl⟩) hP hD hS hA (fun H locs hP hD hS => ?_)
      refine lv_if_eq (tgt := 27) hx hb d_M_cutRule_22 (by decide) (fun hc => ?_) (fun hc => ?_)
      · rw [if_pos hc] at hf
        refine lv_aload_n hx hb d_M_cutRule_27 rfl (lv_at hl 0 rfl) ?_
        refine lv_iload_n hx hb d_M_cutRule_28 rfl (lv_at hl 1 rfl) ?_
        refine lv_iload_n hx hb d_M_cutRule_29 rfl (lv_at hl 2 rfl) ?_
        obtain ⟨o7, hco7, hf⟩ := fg_ob_some hf
        refine fgM_i (va_runV (As := [.int p0, .int p1]) (rest := []) ⟨hx, hb, hml, hown, hts⟩ (c_M_flow l dC dI cI cZ ad _ o6.2 n B E C O F L V p0 p1 o7 hco7) (cwV 2 hts gv_M_73 rfl rfl rfl (by decide +kernel) ⟨Nat.le_of_ble_eq_true rfl, Nat.le_of_ble_eq_true rfl⟩) (mW_pre hK hP hD) rfl rfl hl.1 rfl (lv_room (Nat.le_of_ble_eq_true rfl)) d_M_cutRule_30 ⟨Nat.le_of_ble_eq_true rfl, Nat.le_of_ble_eq_true rfl⟩) hP hD hS hA (fun H locs hP hD hS => ?_)
        refine lv_pop hx hb d_M_cutRule_33 rfl ?_
        refine lv_iconst (v := 0) hx hb d_M_cutRule_34 (by decide) ?_
        refine lv_istore (lv' := [(4, .int 0), (0, .ref (ad 0)), (1, .int p0), (2, .int p1), (3, .int p2)]) hx hb d_M_cutRule_35 hl (by decide) rfl (fun ls hl => ?_)
        refine lv_iconst (v := 0) hx hb d_M_cutRule_37 (by decide) ?_
        refine lv_istore (lv' := [(5, .int 0), (4, .int 0), (0, .ref (ad 0)), (1, .int p0), (2, .int p1), (3, .int p2)]) hx hb d_M_cutRule_38 hl (by decide) rfl (fun ls hl => ?_)
        exact w_M_cutRule_40 hx hb hml hown hts hK hA p2 o6.2 n B E C O F o7.2.1 o7.2.2 fu 0 0 _ hf _ _ _ hP hD hS (lv_sub hl [2, 5, 1, 0] rfl) hE
      · rw [if_neg hc] at hf
        refine lv_iconst (v := 0) hx hb d_M_cutRule_25 (by decide) ?_
        cases hf
        exact hE _ _ _ _ hP hD hS d_M_cutRule_26
