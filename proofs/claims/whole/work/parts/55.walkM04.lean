set_option maxHeartbeats 4000000 in
set_option maxRecDepth 100000 in
theorem c_M_rule (l : Launch) (dC : Nat → ClassId) (dI : Nat → Nat → Nat) (cI cZ : ClassId) (ad : Nat → Nat) (sz : Nat) (t : Int32) (n : Int32) (B : fg_A) (E : fg_A) (C : fg_A) (O : fg_A) (F : fg_A) (L : fg_A) (V : fg_A) (p0 : Int32) (p1 : Int32) (p2 : Int32) (o : Int32 × Int32 × Int32 × fg_A × fg_A × fg_A × fg_A) (hf : f_M_rule t n B E C O p0 p1 p2 = some o) : Met l y_M_rule w_M_rule rm_M_rule (mW_Pc dC dI cI cZ ad sz t n B E C O F L V [.ref (ad 0), .int p0, .int p1, .int p2]) (mW_Qi dC dI cI cZ ad (va_A (mW cI cZ ad t n B E C O F L V) sz) o.2.1 o.2.2.1 o.2.2.2.1 o.2.2.2.2.1 o.2.2.2.2.2.1 o.2.2.2.2.2.2 F L V o.1) 0 0 (va_A (mW cI cZ ad t n B E C O F L V) sz) := by
  refine Met.ofW (cc := b_M_rule) (maxL := 4) (ret := (some .int)) (by decide) rfl ?_
  intro p e s m args below meth c s₁ Bd hml hv
  obtain ⟨rfl, hsz, hP, hK, hD0⟩ := hv
  have hx := Bd.exec
  have hb := Bd.bytes
  have hr := Bd.returns
  have hts := fun w h => atoms_spec (ws := w_M_rule) Bd.pre w (List.mem_cons_of_mem _ h)
  have hown : s.vm.findClass R_M = some m.cls := findClass_of_methodNamed Bd.named
  have hlocks := Bd.notSynchronized
  subst hsz
  have hD := hD0.self (sz := s.heap.size)
  generalize hAe : va_A (mW cI cZ ad t n B E C O F L V) s.heap.size = A at hD ⊢
  have hA : ∀ q : Nat, s.heap.size ≤ q → A q := fun q h => by rw [← hAe]; exact Or.inr h
  have hS : va_S A s.heap s.heap [] := va_S.rf
  have hl := lv_entry ([.ref (ad 0), .int p0, .int p1, .int p2]) (n := 4) (Nat.le_of_ble_eq_true rfl)
  rw [lg_entry_eq]
  generalize (lg_sl ([.ref (ad 0), .int p0, .int p1, .int p2]) ++ List.replicate (4 - (lg_sl ([.ref (ad 0), .int p0, .int p1, .int p2])).length) Slot.unset).toArray = ls at hl ⊢
  have hl : lv_has ls 4 [(0, .ref (ad 0)), (1, .int p0), (2, .int p1), (3, .int p2)] := hl
  have hE : ∀ (pc : Nat) (H : Heap) (locs : List Loc) (ls : Array Slot), va_P (dC, dI) classes (mW cI cZ ad o.2.1 o.2.2.1 o.2.2.2.1 o.2.2.2.2.1 o.2.2.2.2.2.1 o.2.2.2.2.2.2 F L V) H → va_D A (mW cI cZ ad o.2.1 o.2.2.1 o.2.2.2.1 o.2.2.2.2.1 o.2.2.2.2.2.1 o.2.2.2.2.2.2 F L V) → va_S A s.heap H locs → decode b_M_rule pc = .ok (.ireturn, 1) → W p l e (headSpec w_M_rule rm_M_rule).room s m ([.ref (ad 0), .int p0, .int p1, .int p2] : List Value).toArray below meth c H locs 0 0 (MQ below (mW_Qi dC dI cI cZ ad A o.2.1 o.2.2.1 o.2.2.2.1 o.2.2.2.2.1 o.2.2.2.2.2.1 o.2.2.2.2.2.2 F L V o.1) ([.ref (ad 0), .int p0, .int p1, .int p2] : List Value).toArray s 0 0 A) (F0 m pc ls [.int o.1]) := fun pc H locs ls hP hD hS hd => W.iret (v := o.1) hx hb hr (fun t ht hW => ⟨⟨o.1, (), rfl, rfl, by rw [ht]; exact hP, va_K.moved hW.alike hK, hD⟩, hS.F ht⟩) hS.2.2 hd
  unfold f_M_rule at hf
  refine lv_aload_n hx hb d_M_rule_0 rfl (lv_at hl 0 rfl) ?_
  refine lv_iload_n hx hb d_M_rule_1 rfl (lv_at hl 1 rfl) ?_
  obtain ⟨o1, hco1, hf⟩ := fg_ob_some hf
  refine fg_r0 (W.runS (As := [.int p0]) (rest := [.ref (ad 0)]) ⟨hx, hb, hml, hown, hts⟩ (c_M_isNode l p0 o1 hco1) (cwS 1 hts gs_M_43 rfl rfl rfl (by decide +kernel) ⟨Nat.le_of_ble_eq_true rfl, Nat.le_of_ble_eq_true rfl⟩) preEq rfl rfl hl.1 rfl (lv_room (Nat.le_of_ble_eq_true rfl)) d_M_rule_2 ⟨Nat.le_of_ble_eq_true rfl, Nat.le_of_ble_eq_true rfl⟩) ?_
  refine lv_if_eq (tgt := 30) hx hb d_M_rule_5 (by decide) (fun hc => ?_) (fun hc => ?_)
  · rw [if_pos hc] at hf
    refine lv_iconst (v := 1) hx hb d_M_rule_30 (by decide) ?_
    refine lv_goto (tgt := 35) hx hb d_M_rule_31 (by decide) ?_
    refine lv_aload_n hx hb d_M_rule_35 rfl (lv_at hl 0 rfl) ?_
    refine va_get (D := (dC, dI)) (ci := 1) (v := .int n) (C := R_M) (T := F_M) (N := 9) hx hb hts i_M hown hK hP 0 rfl rfl 1 (by decide) (hts _ fl_M_40) (fun _ h9 => h9) rfl d_M_rule_36 ?_
    refine lv_bipush (v := 90) hx hb d_M_rule_39 (by decide) ?_
    refine lv_icmp_ne (tgt := 48) hx hb d_M_rule_41 (by decide) (fun hc => ?_) (fun hc => ?_)
    · rw [if_neg hc] at hf
      refine lv_iconst (v := 0) hx hb d_M_rule_48 (by decide) ?_
      obtain ⟨o2, hco2, hf⟩ := fg_ob_some hf
      refine fgM_i (va_runV (As := [.int 1, .int 0]) (rest := []) ⟨hx, hb, hml, hown, hts⟩ (c_M_refuse l dC dI cI cZ ad _ t n B E C O F L V 1 0 o2 hco2) (cwV 2 hts gv_M_47 rfl rfl rfl (by decide +kernel) ⟨Nat.le_of_ble_eq_true rfl, Nat.le_of_ble_eq_true rfl⟩) (mW_pre hK hP hD) rfl rfl hl.1 rfl (lv_room (Nat.le_of_ble_eq_true rfl)) d_M_rule_49 ⟨Nat.le_of_ble_eq_true rfl, Nat.le_of_ble_eq_true rfl⟩) hP hD hS hA (fun H locs hP hD hS => ?_)
      refine lv_if_eq (tgt := 57) hx hb d_M_rule_52 (by decide) (fun hc => ?_) (fun hc => ?_)
      · rw [if_pos hc] at hf
        refine lv_aload_n hx hb d_M_rule_57 rfl (lv_at hl 0 rfl) ?_
        refine va_get (D := (dC, dI)) (ci := 1) (v := .ref (ad 1)) (C := R_M) (T := F_M) (N := 9) hx hb hts i_M hown hK hP 0 rfl rfl 2 (by decide) (hts _ fl_M_7) (fun _ h9 => h9) rfl d_M_rule_58 ?_
        refine lv_aload_n hx hb d_M_rule_61 rfl (lv_at hl 0 rfl) ?_
        refine va_get (D := (dC, dI)) (ci := 1) (v := .int n) (C := R_M) (T := F_M) (N := 9) hx hb hts i_M hown hK hP 0 rfl rfl 1 (by decide) (hts _ fl_M_40) (fun _ h9 => h9) rfl d_M_rule_62 ?_
        refine lv_iload_n hx hb d_M_rule_65 rfl (lv_at hl 1 rfl) ?_
        obtain ⟨hi, hf⟩ := fg_og_some hf
        refine va_iast hx hb hK hP hD hS 1 0 rfl rfl (ix_in hi) d_M_rule_66 (fun H locs hP hD hS => ?_)
        have hP : va_P (dC, dI) classes (mW cI cZ ad o2.2 n (upd B n.toNatClampNeg p0) E C O F L V) H := hP
        have hD : va_D A (mW cI cZ ad o2.2 n (upd B n.toNatClampNeg p0) E C O F L V) := hD
        refine lv_aload_n hx hb d_M_rule_67 rfl (lv_at hl 0 rfl) ?_
        refine va_get (D := (dC, dI)) (ci := 1) (v := .ref (ad 2)) (C := R_M) (T := F_M) (N := 9) hx hb hts i_M hown hK hP 0 rfl rfl 3 (by decide) (hts _ fl_M_13) (fun _ h9 => h9) rfl d_M_rule_68 ?_
        refine lv_aload_n hx hb d_M_rule_71 rfl (lv_at hl 0 rfl) ?_
        refine va_get (D := (dC, dI)) (ci := 1) (v := .int n) (C := R_M) (T := F_M) (N := 9) hx hb hts i_M hown hK hP 0 rfl rfl 1 (by decide) (hts _ fl_M_40) (fun _ h9 => h9) rfl d_M_rule_72 ?_
        refine lv_iload_n hx hb d_M_rule_75 rfl (lv_at hl 2 rfl) ?_
        obtain ⟨hi, hf⟩ := fg_og_some hf
        refine va_iast hx hb hK hP hD hS 2 0 rfl rfl (ix_in hi) d_M_rule_76 (fun H locs hP hD hS => ?_)
        have hP : va_P (dC, dI) classes (mW cI cZ ad o2.2 n (upd B n.toNatClampNeg p0) (upd E n.toNatClampNeg p1) C O F L V) H := hP
        have hD : va_D A (mW cI cZ ad o2.2 n (upd B n.toNatClampNeg p0) (upd E n.toNatClampNeg p1) C O F L V) := hD
        refine lv_aload_n hx hb d_M_rule_77 rfl (lv_at hl 0 rfl) ?_
        refine va_get (D := (dC, dI)) (ci := 1) (v := .ref (ad 3)) (C := R_M) (T := F_M) (N := 9) hx hb hts i_M hown hK hP 0 rfl rfl 4 (by decide) (hts _ fl_M_16) (fun _ h9 => h9) rfl d_M_rule_78 ?_
        refine lv_aload_n hx hb d_M_rule_81 rfl (lv_at hl 0 rfl) ?_
        refine va_get (D := (dC, dI)) (ci := 1) (v := .int n) (C := R_M) (T := F_M) (N := 9) hx hb hts i_M hown hK hP 0 rfl rfl 1 (by decide) (hts _ fl_M_40) (fun _ h9 => h9) rfl d_M_rule_82 ?_
        refine lv_iload_n hx hb d_M_rule_85 rfl (lv_at hl 3 rfl) ?_
        obtain ⟨hi, hf⟩ := fg_og_some hf
        refine va_iast hx hb hK hP hD hS 3 0 rfl rfl (ix_in hi) d_M_rule_86 (fun H locs hP hD hS => ?_)
        have hP : va_P (dC, dI) classes (mW cI cZ ad o2.2 n (upd B n.toNatClampNeg p0) (upd E n.toNatClampNeg p1) (upd C n.toNatClampNeg p2) O F L V) H := hP
        have hD : va_D A (mW cI cZ ad o2.2 n (upd B n.toNatClampNeg p0) (upd E n.toNatClampNeg p1) (upd C n.toNatClampNeg p2) O F L V) := hD
        refine lv_aload_n hx hb d_M_rule_87 rfl (lv_at hl 0 rfl) ?_
        refine va_get (D := (dC, dI)) (ci := 1) (v := .ref (ad 4)) (C := R_M) (T := F_M) (N := 9) hx hb hts i_M hown hK hP 0 rfl rfl 5 (by decide) (hts _ fl_M_19) (fun _ h9 => h9) rfl d_M_rule_88 ?_
        refine lv_aload_n hx hb d_M_rule_91 rfl (lv_at hl 0 rfl) ?_
        refine va_get (D := (dC, dI)) (ci := 1) (v := .int n) (C := R_M) (T := F_M) (N := 9) hx hb hts i_M hown hK hP 0 rfl rfl 1 (by decide) (hts _ fl_M_40) (fun _ h9 => h9) rfl d_M_rule_92 ?_
        refine lv_iconst (v := 1) hx hb d_M_rule_95 (by decide) ?_
        obtain ⟨hi, hf⟩ := fg_og_some hf
        refine va_zast hx hb hK hP hD hS 4 1 rfl rfl (ix_in hi) d_M_rule_96 (fun H locs hP hD hS => ?_)
        have hP : va_P (dC, dI) classes (mW cI cZ ad o2.2 n (upd B n.toNatClampNeg p0) (upd E n.toNatClampNeg p1) (upd C n.toNatClampNeg p2) (upd O n.toNatClampNeg (vp_nar .boolean 1)) F L V) H := hP
        have hD : va_D A (mW cI cZ ad o2.2 n (upd B n.toNatClampNeg p0) (upd E n.toNatClampNeg p1) (upd C n.toNatClampNeg p2) (upd O n.toNatClampNeg (vp_nar .boolean 1)) F L V) := hD
        refine lv_aload_n hx hb d_M_rule_97 rfl (lv_at hl 0 rfl) ?_
        refine lv_dup hx hb d_M_rule_98 rfl ?_
        refine va_get (D := (dC, dI)) (ci := 1) (v := .int n) (C := R_M) (T := F_M) (N := 9) hx hb hts i_M hown hK hP 0 rfl rfl 1 (by decide) (hts _ fl_M_40) (fun _ h9 => h9) rfl d_M_rule_99 ?_
        refine lv_iconst (v := 1) hx hb d_M_rule_102 (by decide) ?_
        refine lv_iadd hx hb d_M_rule_103 ?_
        refine va_put (D := (dC, dI)) (ci := 1) (v := .int (n + 1)) (ty := .int) (C := R_M) (T := F_M) (N := 9) hx hb hts i_M t_M t_M_ok n_M hown hK hP hD hS 0 rfl rfl 1 (by decide) (hts _ fl_M_40) (fun _ h9 => h9) rfl (by decide +kernel) rfl rfl (Nat.le_of_ble_eq_true rfl) d_M_rule_104 (fun H locs hP hD hS => ?_)
        have hP : va_P (dC, dI) classes (mW cI cZ ad o2.2 (n + 1) (upd B n.toNatClampNeg p0) (upd E n.toNatClampNeg p1) (upd C n.toNatClampNeg p2) (upd O n.toNatClampNeg (vp_nar .boolean 1)) F L V) H := hP
        have hD : va_D A (mW cI cZ ad o2.2 (n + 1) (upd B n.toNatClampNeg p0) (upd E n.toNatClampNeg p1) (upd C n.toNatClampNeg p2) (upd O n.toNatClampNeg (vp_nar .boolean 1)) F L V) := hD
        refine lv_aload_n hx hb d_M_rule_107 rfl (lv_at hl 0 rfl) ?_
        refine va_get (D := (dC, dI)) (ci := 1) (v := .int (n + 1)) (C := R_M) (T := F_M) (N := 9) hx hb hts i_M hown hK hP 0 rfl rfl 1 (by decide) (hts _ fl_M_40) (fun _ h9 => h9) rfl d_M_rule_108 ?_
        refine lv_iconst (v := 1) hx hb d_M_rule_111 (by decide) ?_
        refine lv_isub hx hb d_M_rule_112 ?_
        cases hf
        exact hE _ _ _ _ hP hD hS d_M_rule_113
      · rw [if_neg hc] at hf
        refine lv_iconst (v := 0) hx hb d_M_rule_55 (by decide) ?_
        cases hf
        exact hE _ _ _ _ hP hD hS d_M_rule_56
    · rw [if_pos hc] at hf
      refine lv_iconst (v := 1) hx hb d_M_rule_44 (by decide) ?_
      refine lv_goto (tgt := 49) hx hb d_M_rule_45 (by decide) ?_
      obtain ⟨o3, hco3, hf⟩ := fg_ob_some hf
      refine fgM_i (va_runV (As := [.int 1, .int 1]) (rest := []) ⟨hx, hb, hml, hown, hts⟩ (c_M_refuse l dC dI cI cZ ad _ t n B E C O F L V 1 1 o3 hco3) (cwV 2 hts gv_M_47 rfl rfl rfl (by decide +kernel) ⟨Nat.le_of_ble_eq_true rfl, Nat.le_of_ble_eq_true rfl⟩) (mW_pre hK hP hD) rfl rfl hl.1 rfl (lv_room (Nat.le_of_ble_eq_true rfl)) d_M_rule_49 ⟨Nat.le_of_ble_eq_true rfl, Nat.le_of_ble_eq_true rfl⟩) hP hD hS hA (fun H locs hP hD hS => ?_)
      refine lv_if_eq (tgt := 57) hx hb d_M_rule_52 (by decide) (fun hc => ?_) (fun hc => ?_)
      · rw [if_pos hc] at hf
        refine lv_aload_n hx hb d_M_rule_57 rfl (lv_at hl 0 rfl) ?_
        refine va_get (D := (dC, dI)) (ci := 1) (v := .ref (ad 1)) (C := R_M) (T := F_M) (N := 9) hx hb hts i_M hown hK hP 0 rfl rfl 2 (by decide) (hts _ fl_M_7) (fun _ h9 => h9) rfl d_M_rule_58 ?_
        refine lv_aload_n hx hb d_M_rule_61 rfl (lv_at hl 0 rfl) ?_
        refine va_get (D := (dC, dI)) (ci := 1) (v := .int n) (C := R_M) (T := F_M) (N := 9) hx hb hts i_M hown hK hP 0 rfl rfl 1 (by decide) (hts _ fl_M_40) (fun _ h9 => h9) rfl d_M_rule_62 ?_
        refine lv_iload_n hx hb d_M_rule_65 rfl (lv_at hl 1 rfl) ?_
        obtain ⟨hi, hf⟩ := fg_og_some hf
        refine va_iast hx hb hK hP hD hS 1 0 rfl rfl (ix_in hi) d_M_rule_66 (fun H locs hP hD hS => ?_)
        have hP : va_P (dC, dI) classes (mW cI cZ ad o3.2 n (upd B n.toNatClampNeg p0) E C O F L V) H := hP
        have hD : va_D A (mW cI cZ ad o3.2 n (upd B n.toNatClampNeg p0) E C O F L V) := hD
        refine lv_aload_n hx hb d_M_rule_67 rfl (lv_at hl 0 rfl) ?_
        refine va_get (D := (dC, dI)) (ci := 1) (v := .ref (ad 2)) (C := R_M) (T := F_M) (N := 9) hx hb hts i_M hown hK hP 0 rfl rfl 3 (by decide) (hts _ fl_M_13) (fun _ h9 => h9) rfl d_M_rule_68 ?_
        refine lv_aload_n hx hb d_M_rule_71 rfl (lv_at hl 0 rfl) ?_
        refine va_get (D := (dC, dI)) (ci := 1) (v := .int n) (C := R_M) (T := F_M) (N := 9) hx hb hts i_M hown hK hP 0 rfl rfl 1 (by decide) (hts _ fl_M_40) (fun _ h9 => h9) rfl d_M_rule_72 ?_
        refine lv_iload_n hx hb d_M_rule_75 rfl (lv_at hl 2 rfl) ?_
        obtain ⟨hi, hf⟩ := fg_og_some hf
        refine va_iast hx hb hK hP hD hS 2 0 rfl rfl (ix_in hi) d_M_rule_76 (fun H locs hP hD hS => ?_)
        have hP : va_P (dC, dI) classes (mW cI cZ ad o3.2 n (upd B n.toNatClampNeg p0) (upd E n.toNatClampNeg p1) C O F L V) H := hP
        have hD : va_D A (mW cI cZ ad o3.2 n (upd B n.toNatClampNeg p0) (upd E n.toNatClampNeg p1) C O F L V) := hD
        refine lv_aload_n hx hb d_M_rule_77 rfl (lv_at hl 0 rfl) ?_
        refine va_get (D := (dC, dI)) (ci := 1) (v := .ref (ad 3)) (C := R_M) (T := F_M) (N := 9) hx hb hts i_M hown hK hP 0 rfl rfl 4 (by decide) (hts _ fl_M_16) (fun _ h9 => h9) rfl d_M_rule_78 ?_
        refine lv_aload_n hx hb d_M_rule_81 rfl (lv_at hl 0 rfl) ?_
        refine va_get (D := (dC, dI)) (ci := 1) (v := .int n) (C := R_M) (T := F_M) (N := 9) hx hb hts i_M hown hK hP 0 rfl rfl 1 (by decide) (hts _ fl_M_40) (fun _ h9 => h9) rfl d_M_rule_82 ?_
        refine lv_iload_n hx hb d_M_rule_85 rfl (lv_at hl 3 rfl) ?_
        obtain ⟨hi, hf⟩ := fg_og_some hf
        refine va_iast hx hb hK hP hD hS 3 0 rfl rfl (ix_in hi) d_M_rule_86 (fun H locs hP hD hS => ?_)
        have hP : va_P (dC, dI) classes (mW cI cZ ad o3.2 n (upd B n.toNatClampNeg p0) (upd E n.toNatClampNeg p1) (upd C n.toNatClampNeg p2) O F L V) H := hP
        have hD : va_D A (mW cI cZ ad o3.2 n (upd B n.toNatClampNeg p0) (upd E n.toNatClampNeg p1) (upd C n.toNatClampNeg p2) O F L V) := hD
        refine lv_aload_n hx hb d_M_rule_87 rfl (lv_at hl 0 rfl) ?_
        refine va_get (D := (dC, dI)) (ci := 1) (v := .ref (ad 4)) (C := R_M) (T := F_M) (N := 9) hx hb hts i_M hown hK hP 0 rfl rfl 5 (by decide) (hts _ fl_M_19) (fun _ h9 => h9) rfl d_M_rule_88 ?_
        refine lv_aload_n hx hb d_M_rule_91 rfl (lv_at hl 0 rfl) ?_
        refine va_get (D := (dC, dI)) (ci := 1) (v := .int n) (C := R_M) (T := F_M) (N := 9) hx hb hts i_M hown hK hP 0 rfl rfl 1 (by decide) (hts _ fl_M_40) (fun _ h9 => h9) rfl d_M_rule_92 ?_
        refine lv_iconst (v := 1) hx hb d_M_rule_95 (by decide) ?_
        obtain ⟨hi, hf⟩ := fg_og_some hf
        refine va_zast hx hb hK hP hD hS 4 1 rfl rfl (ix_in hi) d_M_rule_96 (fun H locs hP hD hS => ?_)
        have hP : va_P (dC, dI) classes (mW cI cZ ad o3.2 n (upd B n.toNatClampNeg p0) (upd E n.toNatClampNeg p1) (upd C n.toNatClampNeg p2) (upd O n.toNatClampNeg (vp_nar .boolean 1)) F L V) H := hP
        have hD : va_D A (mW cI cZ ad o3.2 n (upd B n.toNatClampNeg p0) (upd E n.toNatClampNeg p1) (upd C n.toNatClampNeg p2) (upd O n.toNatClampNeg (vp_nar .boolean 1)) F L V) := hD
        refine lv_aload_n hx hb d_M_rule_97 rfl (lv_at hl 0 rfl) ?_
        refine lv_dup hx hb d_M_rule_98 rfl ?_
        refine va_get (D := (dC, dI)) (ci := 1) (v := .int n) (C := R_M) (T := F_M) (N := 9) hx hb hts i_M hown hK hP 0 rfl rfl 1 (by decide) (hts _ fl_M_40) (fun _ h9 => h9) rfl d_M_rule_99 ?_
        refine lv_iconst (v := 1) hx hb d_M_rule_102 (by decide) ?_
        refine lv_iadd hx hb d_M_rule_103 ?_
        refine va_put (D := (dC, dI)) (ci := 1) (v := .int (n + 1)) (ty := .int) (C := R_M) (T := F_M) (N := 9) hx hb hts i_M t_M t_M_ok n_M hown hK hP hD hS 0 rfl rfl 1 (by decide) (hts _ fl_M_40) (fun _ h9 => h9) rfl (by decide +kernel) rfl rfl (Nat.le_of_ble_eq_true rfl) d_M_rule_104 (fun H locs hP hD hS => ?_)
        have hP : va_P (dC, dI) classes (mW cI cZ ad o3.2 (n + 1) (upd B n.toNatClampNeg p0) (upd E n.toNatClampNeg p1) (upd C n.toNatClampNeg p2) (upd O n.toNatClampNeg (vp_nar .boolean 1)) F L V) H := hP
        have hD : va_D A (mW cI cZ ad o3.2 (n + 1) (upd B n.toNatClampNeg p0) (upd E n.toNatClampNeg p1) (upd C n.toNatClampNeg p2) (upd O n.toNatClampNeg (vp_nar .boolean 1)) F L V) := hD
        refine lv_aload_n hx hb d_M_rule_107 rfl (lv_at hl 0 rfl) ?_
        refine va_get (D := (dC, dI)) (ci := 1) (v := .int (n + 1)) (C := R_M) (T := F_M) (N := 9) hx hb hts i_M hown hK hP 0 rfl rfl 1 (by decide) (hts _ fl_M_40) (fun _ h9 => h9) rfl d_M_rule_108 ?_
        refine lv_iconst (v := 1) hx hb d_M_rule_111 (by decide) ?_
        refine lv_isub hx hb d_M_rule_112 ?_
        cases hf
        exact hE _ _ _ _ hP hD hS d_M_rule_113
      · rw [if_neg hc] at hf
        refine lv_iconst (v := 0) hx hb d_M_rule_55 (by decide) ?_
        cases hf
        exact hE _ _ _ _ hP hD hS d_M_rule_56
  · rw [if_neg hc] at hf
    refine lv_iload_n hx hb d_M_rule_8 rfl (lv_at hl 2 rfl) ?_
    obtain ⟨o4, hco4, hf⟩ := fg_ob_some hf
    refine fg_r0 (W.runS (As := [.int p1]) (rest := [.ref (ad 0)]) ⟨hx, hb, hml, hown, hts⟩ (c_M_isNode l p1 o4 hco4) (cwS 1 hts gs_M_43 rfl rfl rfl (by decide +kernel) ⟨Nat.le_of_ble_eq_true rfl, Nat.le_of_ble_eq_true rfl⟩) preEq rfl rfl hl.1 rfl (lv_room (Nat.le_of_ble_eq_true rfl)) d_M_rule_9 ⟨Nat.le_of_ble_eq_true rfl, Nat.le_of_ble_eq_true rfl⟩) ?_
    refine lv_if_eq (tgt := 30) hx hb d_M_rule_12 (by decide) (fun hc => ?_) (fun hc => ?_)
    · rw [if_pos hc] at hf
      refine lv_iconst (v := 1) hx hb d_M_rule_30 (by decide) ?_
      refine lv_goto (tgt := 35) hx hb d_M_rule_31 (by decide) ?_
      refine lv_aload_n hx hb d_M_rule_35 rfl (lv_at hl 0 rfl) ?_
      refine va_get (D := (dC, dI)) (ci := 1) (v := .int n) (C := R_M) (T := F_M) (N := 9) hx hb hts i_M hown hK hP 0 rfl rfl 1 (by decide) (hts _ fl_M_40) (fun _ h9 => h9) rfl d_M_rule_36 ?_
      refine lv_bipush (v := 90) hx hb d_M_rule_39 (by decide) ?_
      refine lv_icmp_ne (tgt := 48) hx hb d_M_rule_41 (by decide) (fun hc => ?_) (fun hc => ?_)
      · rw [if_neg hc] at hf
        refine lv_iconst (v := 0) hx hb d_M_rule_48 (by decide) ?_
        obtain ⟨o5, hco5, hf⟩ := fg_ob_some hf
        refine fgM_i (va_runV (As := [.int 1, .int 0]) (rest := []) ⟨hx, hb, hml, hown, hts⟩ (c_M_refuse l dC dI cI cZ ad _ t n B E C O F L V 1 0 o5 hco5) (cwV 2 hts gv_M_47 rfl rfl rfl (by decide +kernel) ⟨Nat.le_of_ble_eq_true rfl, Nat.le_of_ble_eq_true rfl⟩) (mW_pre hK hP hD) rfl rfl hl.1 rfl (lv_room (Nat.le_of_ble_eq_true rfl)) d_M_rule_49 ⟨Nat.le_of_ble_eq_true rfl, Nat.le_of_ble_eq_true rfl⟩) hP hD hS hA (fun H locs hP hD hS => ?_)
        refine lv_if_eq (tgt := 57) hx hb d_M_rule_52 (by decide) (fun hc => ?_) (fun hc => ?_)
        · rw [if_pos hc] at hf
          refine lv_aload_n hx hb d_M_rule_57 rfl (lv_at hl 0 rfl) ?_
          refine va_get (D := (dC, dI)) (ci := 1) (v := .ref (ad 1)) (C := R_M) (T := F_M) (N := 9) hx hb hts i_M hown hK hP 0 rfl rfl 2 (by decide) (hts _ fl_M_7) (fun _ h9 => h9) rfl d_M_rule_58 ?_
          refine lv_aload_n hx hb d_M_rule_61 rfl (lv_at hl 0 rfl) ?_
          refine va_get (D := (dC, dI)) (ci := 1) (v := .int n) (C := R_M) (T := F_M) (N := 9) hx hb hts i_M hown hK hP 0 rfl rfl 1 (by decide) (hts _ fl_M_40) (fun _ h9 => h9) rfl d_M_rule_62 ?_
          refine lv_iload_n hx hb d_M_rule_65 rfl (lv_at hl 1 rfl) ?_
          obtain ⟨hi, hf⟩ := fg_og_some hf
          refine va_iast hx hb hK hP hD hS 1 0 rfl rfl (ix_in hi) d_M_rule_66 (fun H locs hP hD hS => ?_)
          have hP : va_P (dC, dI) classes (mW cI cZ ad o5.2 n (upd B n.toNatClampNeg p0) E C O F L V) H := hP
          have hD : va_D A (mW cI cZ ad o5.2 n (upd B n.toNatClampNeg p0) E C O F L V) := hD
          refine lv_aload_n hx hb d_M_rule_67 rfl (lv_at hl 0 rfl) ?_
          refine va_get (D := (dC, dI)) (ci := 1) (v := .ref (ad 2)) (C := R_M) (T := F_M) (N := 9) hx hb hts i_M hown hK hP 0 rfl rfl 3 (by decide) (hts _ fl_M_13) (fun _ h9 => h9) rfl d_M_rule_68 ?_
          refine lv_aload_n hx hb d_M_rule_71 rfl (lv_at hl 0 rfl) ?_
          refine va_get (D := (dC, dI)) (ci := 1) (v := .int n) (C := R_M) (T := F_M) (N := 9) hx hb hts i_M hown hK hP 0 rfl rfl 1 (by decide) (hts _ fl_M_40) (fun _ h9 => h9) rfl d_M_rule_72 ?_
          refine lv_iload_n hx hb d_M_rule_75 rfl (lv_at hl 2 rfl) ?_
          obtain ⟨hi, hf⟩ := fg_og_some hf
          refine va_iast hx hb hK hP hD hS 2 0 rfl rfl (ix_in hi) d_M_rule_76 (fun H locs hP hD hS => ?_)
          have hP : va_P (dC, dI) classes (mW cI cZ ad o5.2 n (upd B n.toNatClampNeg p0) (upd E n.toNatClampNeg p1) C O F L V) H := hP
          have hD : va_D A (mW cI cZ ad o5.2 n (upd B n.toNatClampNeg p0) (upd E n.toNatClampNeg p1) C O F L V) := hD
          refine lv_aload_n hx hb d_M_rule_77 rfl (lv_at hl 0 rfl) ?_
          refine va_get (D := (dC, dI)) (ci := 1) (v := .ref (ad 3)) (C := R_M) (T := F_M) (N := 9) hx hb hts i_M hown hK hP 0 rfl rfl 4 (by decide) (hts _ fl_M_16) (fun _ h9 => h9) rfl d_M_rule_78 ?_
          refine lv_aload_n hx hb d_M_rule_81 rfl (lv_at hl 0 rfl) ?_
          refine va_get (D := (dC, dI)) (ci := 1) (v := .int n) (C := R_M) (T := F_M) (N := 9) hx hb hts i_M hown hK hP 0 rfl rfl 1 (by decide) (hts _ fl_M_40) (fun _ h9 => h9) rfl d_M_rule_82 ?_
          refine lv_iload_n hx hb d_M_rule_85 rfl (lv_at hl 3 rfl) ?_
          obtain ⟨hi, hf⟩ := fg_og_some hf
          refine va_iast hx hb hK hP hD hS 3 0 rfl rfl (ix_in hi) d_M_rule_86 (fun H locs hP hD hS => ?_)
          have hP : va_P (dC, dI) classes (mW cI cZ ad o5.2 n (upd B n.toNatClampNeg p0) (upd E n.toNatClampNeg p1) (upd C n.toNatClampNeg p2) O F L V) H := hP
          have hD : va_D A (mW cI cZ ad o5.2 n (upd B n.toNatClampNeg p0) (upd E n.toNatClampNeg p1) (upd C n.toNatClampNeg p2) O F L V) := hD
          refine lv_aload_n hx hb d_M_rule_87 rfl (lv_at hl 0 rfl) ?_
          refine va_get (D := (dC, dI)) (ci := 1) (v := .ref (ad 4)) (C := R_M) (T := F_M) (N := 9) hx hb hts i_M hown hK hP 0 rfl rfl 5 (by decide) (hts _ fl_M_19) (fun _ h9 => h9) rfl d_M_rule_88 ?_
          refine lv_aload_n hx hb d_M_rule_91 rfl (lv_at hl 0 rfl) ?_
          refine va_get (D := (dC, dI)) (ci := 1) (v := .int n) (C := R_M) (T := F_M) (N := 9) hx hb hts i_M hown hK hP 0 rfl rfl 1 (by decide) (hts _ fl_M_40) (fun _ h9 => h9) rfl d_M_rule_92 ?_
          refine lv_iconst (v := 1) hx hb d_M_rule_95 (by decide) ?_
          obtain ⟨hi, hf⟩ := fg_og_some hf
          refine va_zast hx hb hK hP hD hS 4 1 rfl rfl (ix_in hi) d_M_rule_96 (fun H locs hP hD hS => ?_)
          have hP : va_P (dC, dI) classes (mW cI cZ ad o5.2 n (upd B n.toNatClampNeg p0) (upd E n.toNatClampNeg p1) (upd C n.toNatClampNeg p2) (upd O n.toNatClampNeg (vp_nar .boolean 1)) F L V) H := hP
          have hD : va_D A (mW cI cZ ad o5.2 n (upd B n.toNatClampNeg p0) (upd E n.toNatClampNeg p1) (upd C n.toNatClampNeg p2) (upd O n.toNatClampNeg (vp_nar .boolean 1)) F L V) := hD
          refine lv_aload_n hx hb d_M_rule_97 rfl (lv_at hl 0 rfl) ?_
          refine lv_dup hx hb d_M_rule_98 rfl ?_
          refine va_get (D := (dC, dI)) (ci := 1) (v := .int n) (C := R_M) (T := F_M) (N := 9) hx hb hts i_M hown hK hP 0 rfl rfl 1 (by decide) (hts _ fl_M_40) (fun _ h9 => h9) rfl d_M_rule_99 ?_
          refine lv_iconst (v := 1) hx hb d_M_rule_102 (by decide) ?_
          refine lv_iadd hx hb d_M_rule_103 ?_
          refine va_put (D := (dC, dI)) (ci := 1) (v := .int (n + 1)) (ty := .int) (C := R_M) (T := F_M) (N := 9) hx hb hts i_M t_M t_M_ok n_M hown hK hP hD hS 0 rfl rfl 1 (by decide) (hts _ fl_M_40) (fun _ h9 => h9) rfl (by decide +kernel) rfl rfl (Nat.le_of_ble_eq_true rfl) d_M_rule_104 (fun H locs hP hD hS => ?_)
          have hP : va_P (dC, dI) classes (mW cI cZ ad o5.2 (n + 1) (upd B n.toNatClampNeg p0) (upd E n.toNatClampNeg p1) (upd C n.toNatClampNeg p2) (upd O n.toNatClampNeg (vp_nar .boolean 1)) F L V) H := hP
          have hD : va_D A (mW cI cZ ad o5.2 (n + 1) (upd B n.toNatClampNeg p0) (upd E n.toNatClampNeg p1) (upd C n.toNatClampNeg p2) (upd O n.toNatClampNeg (vp_nar .boolean 1)) F L V) := hD
          refine lv_aload_n hx hb d_M_rule_107 rfl (lv_at hl 0 rfl) ?_
          refine va_get (D := (dC, dI)) (ci := 1) (v := .int (n + 1)) (C := R_M) (T := F_M) (N := 9) hx hb hts i_M hown hK hP 0 rfl rfl 1 (by decide) (hts _ fl_M_40) (fun _ h9 => h9) rfl d_M_rule_108 ?_
          refine lv_iconst (v := 1) hx hb d_M_rule_111 (by decide) ?_
          refine lv_isub hx hb d_M_rule_112 ?_
          cases hf
          exact hE _ _ _ _ hP hD hS d_M_rule_113
        · rw [if_neg hc] at hf
          refine lv_iconst (v := 0) hx hb d_M_rule_55 (by decide) ?_
          cases hf
          exact hE _ _ _ _ hP hD hS d_M_rule_56
      · rw [if_pos hc] at hf
        refine lv_iconst (v := 1) hx hb d_M_rule_44 (by decide) ?_
        refine lv_goto (tgt := 49) hx hb d_M_rule_45 (by decide) ?_
        obtain ⟨o6, hco6, hf⟩ := fg_ob_some hf
        refine fgM_i (va_runV (As := [.int 1, .int 1]) (rest := []) ⟨hx, hb, hml, hown, hts⟩ (c_M_refuse l dC dI cI cZ ad _ t n B E C O F L V 1 1 o6 hco6) (cwV 2 hts gv_M_47 rfl rfl rfl (by decide +kernel) ⟨Nat.le_of_ble_eq_true rfl, Nat.le_of_ble_eq_true rfl⟩) (mW_pre hK hP hD) rfl rfl hl.1 rfl (lv_room (Nat.le_of_ble_eq_true rfl)) d_M_rule_49 ⟨Nat.le_of_ble_eq_true rfl, Nat.le_of_ble_eq_true rfl⟩) hP hD hS hA (fun H locs hP hD hS => ?_)
        refine lv_if_eq (tgt := 57) hx hb d_M_rule_52 (by decide) (fun hc => ?_) (fun hc => ?_)
        · rw [if_pos hc] at hf
          refine lv_aload_n hx hb d_M_rule_57 rfl (lv_at hl 0 rfl) ?_
          refine va_get (D := (dC, dI)) (ci := 1) (v := .ref (ad 1)) (C := R_M) (T := F_M) (N := 9) hx hb hts i_M hown hK hP 0 rfl rfl 2 (by decide) (hts _ fl_M_7) (fun _ h9 => h9) rfl d_M_rule_58 ?_
          refine lv_aload_n hx hb d_M_rule_61 rfl (lv_at hl 0 rfl) ?_
          refine va_get (D := (dC, dI)) (ci := 1) (v := .int n) (C := R_M) (T := F_M) (N := 9) hx hb hts i_M hown hK hP 0 rfl rfl 1 (by decide) (hts _ fl_M_40) (fun _ h9 => h9) rfl d_M_rule_62 ?_
          refine lv_iload_n hx hb d_M_rule_65 rfl (lv_at hl 1 rfl) ?_
          obtain ⟨hi, hf⟩ := fg_og_some hf
          refine va_iast hx hb hK hP hD hS 1 0 rfl rfl (ix_in hi) d_M_rule_66 (fun H locs hP hD hS => ?_)
          have hP : va_P (dC, dI) classes (mW cI cZ ad o6.2 n (upd B n.toNatClampNeg p0) E C O F L V) H := hP
          have hD : va_D A (mW cI cZ ad o6.2 n (upd B n.toNatClampNeg p0) E C O F L V) := hD
          refine lv_aload_n hx hb d_M_rule_67 rfl (lv_at hl 0 rfl) ?_
          refine va_get (D := (dC, dI)) (ci := 1) (v := .ref (ad 2)) (C := R_M) (T := F_M) (N := 9) hx hb hts i_M hown hK hP 0 rfl rfl 3 (by decide) (hts _ fl_M_13) (fun _ h9 => h9) rfl d_M_rule_68 ?_
          refine lv_aload_n hx hb d_M_rule_71 rfl (lv_at hl 0 rfl) ?_
          refine va_get (D := (dC, dI)) (ci := 1) (v := .int n) (C := R_M) (T := F_M) (N := 9) hx hb hts i_M hown hK hP 0 rfl rfl 1 (by decide) (hts _ fl_M_40) (fun _ h9 => h9) rfl d_M_rule_72 ?_
          refine lv_iload_n hx hb d_M_rule_75 rfl (lv_at hl 2 rfl) ?_
          obtain ⟨hi, hf⟩ := fg_og_some hf
          refine va_iast hx hb hK hP hD hS 2 0 rfl rfl (ix_in hi) d_M_rule_76 (fun H locs hP hD hS => ?_)
          have hP : va_P (dC, dI) classes (mW cI cZ ad o6.2 n (upd B n.toNatClampNeg p0) (upd E n.toNatClampNeg p1) C O F L V) H := hP
          have hD : va_D A (mW cI cZ ad o6.2 n (upd B n.toNatClampNeg p0) (upd E n.toNatClampNeg p1) C O F L V) := hD
          refine lv_aload_n hx hb d_M_rule_77 rfl (lv_at hl 0 rfl) ?_
          refine va_get (D := (dC, dI)) (ci := 1) (v := .ref (ad 3)) (C := R_M) (T := F_M) (N := 9) hx hb hts i_M hown hK hP 0 rfl rfl 4 (by decide) (hts _ fl_M_16) (fun _ h9 => h9) rfl d_M_rule_78 ?_
          refine lv_aload_n hx hb d_M_rule_81 rfl (lv_at hl 0 rfl) ?_
          refine va_get (D := (dC, dI)) (ci := 1) (v := .int n) (C := R_M) (T := F_M) (N := 9) hx hb hts i_M hown hK hP 0 rfl rfl 1 (by decide) (hts _ fl_M_40) (fun _ h9 => h9) rfl d_M_rule_82 ?_
          refine lv_iload_n hx hb d_M_rule_85 rfl (lv_at hl 3 rfl) ?_
          obtain ⟨hi, hf⟩ := fg_og_some hf
          refine va_iast hx hb hK hP hD hS 3 0 rfl rfl (ix_in hi) d_M_rule_86 (fun H locs hP hD hS => ?_)
          have hP : va_P (dC, dI) classes (mW cI cZ ad o6.2 n (upd B n.toNatClampNeg p0) (upd E n.toNatClampNeg p1) (upd C n.toNatClampNeg p2) O F L V) H := hP
          have hD : va_D A (mW cI cZ ad o6.2 n (upd B n.toNatClampNeg p0) (upd E n.toNatClampNeg p1) (upd C n.toNatClampNeg p2) O F L V) := hD
          refine lv_aload_n hx hb d_M_rule_87 rfl (lv_at hl 0 rfl) ?_
          refine va_get (D := (dC, dI)) (ci := 1) (v := .ref (ad 4)) (C := R_M) (T := F_M) (N := 9) hx hb hts i_M hown hK hP 0 rfl rfl 5 (by decide) (hts _ fl_M_19) (fun _ h9 => h9) rfl d_M_rule_88 ?_
          refine lv_aload_n hx hb d_M_rule_91 rfl (lv_at hl 0 rfl) ?_
          refine va_get (D := (dC, dI)) (ci := 1) (v := .int n) (C := R_M) (T := F_M) (N := 9) hx hb hts i_M hown hK hP 0 rfl rfl 1 (by decide) (hts _ fl_M_40) (fun _ h9 => h9) rfl d_M_rule_92 ?_
          refine lv_iconst (v := 1) hx hb d_M_rule_95 (by decide) ?_
          obtain ⟨hi, hf⟩ := fg_og_some hf
          refine va_zast hx hb hK hP hD hS 4 1 rfl rfl (ix_in hi) d_M_rule_96 (fun H locs hP hD hS => ?_)
          have hP : va_P (dC, dI) classes (mW cI cZ ad o6.2 n (upd B n.toNatClampNeg p0) (upd E n.toNatClampNeg p1) (upd C n.toNatClampNeg p2) (upd O n.toNatClampNeg (vp_nar .boolean 1)) F L V) H := hP
          have hD : va_D A (mW cI cZ ad o6.2 n (upd B n.toNatClampNeg p0) (upd E n.toNatClampNeg p1) (upd C n.toNatClampNeg p2) (upd O n.toNatClampNeg (vp_nar .boolean 1)) F L V) := hD
          refine lv_aload_n hx hb d_M_rule_97 rfl (lv_at hl 0 rfl) ?_
          refine lv_dup hx hb d_M_rule_98 rfl ?_
          refine va_get (D := (dC, dI)) (ci := 1) (v := .int n) (C := R_M) (T := F_M) (N := 9) hx hb hts i_M hown hK hP 0 rfl rfl 1 (by decide) (hts _ fl_M_40) (fun _ h9 => h9) rfl d_M_rule_99 ?_
          refine lv_iconst (v := 1) hx hb d_M_rule_102 (by decide) ?_
          refine lv_iadd hx hb d_M_rule_103 ?_
          refine va_put (D := (dC, dI)) (ci := 1) (v := .int (n + 1)) (ty := .int) (C := R_M) (T := F_M) (N := 9) hx hb hts i_M t_M t_M_ok n_M hown hK hP hD hS 0 rfl rfl 1 (by decide) (hts _ fl_M_40) (fun _ h9 => h9) rfl (by decide +kernel) rfl rfl (Nat.le_of_ble_eq_true rfl) d_M_rule_104 (fun H locs hP hD hS => ?_)
          have hP : va_P (dC, dI) classes (mW cI cZ ad o6.2 (n + 1) (upd B n.toNatClampNeg p0) (upd E n.toNatClampNeg p1) (upd C n.toNatClampNeg p2) (upd O n.toNatClampNeg (vp_nar .boolean 1)) F L V) H := hP
          have hD : va_D A (mW cI cZ ad o6.2 (n + 1) (upd B n.toNatClampNeg p0) (upd E n.toNatClampNeg p1) (upd C n.toNatClampNeg p2) (upd O n.toNatClampNeg (vp_nar .boolean 1)) F L V) := hD
          refine lv_aload_n hx hb d_M_rule_107 rfl (lv_at hl 0 rfl) ?_
          refine va_get (D := (dC, dI)) (ci := 1) (v := .int (n + 1)) (C := R_M) (T := F_M) (N := 9) hx hb hts i_M hown hK hP 0 rfl rfl 1 (by decide) (hts _ fl_M_40) (fun _ h9 => h9) rfl d_M_rule_108 ?_
          refine lv_iconst (v := 1) hx hb d_M_rule_111 (by decide) ?_
          refine lv_isub hx hb d_M_rule_112 ?_
          cases hf
          exact hE _ _ _ _ hP hD hS d_M_rule_113
        · rw [if_neg hc] at hf
          refine lv_iconst (v := 0) hx hb d_M_rule_55 (by decide) ?_
          cases hf
          exact hE _ _ _ _ hP hD hS d_M_rule_56
    · rw [if_neg hc] at hf
      refine lv_iload_n hx hb d_M_rule_15 rfl (lv_at hl 1 rfl) ?_
      refine lv_iload_n hx hb d_M_rule_16 rfl (lv_at hl 2 rfl) ?_
      refine lv_icmp_eq (tgt := 30) hx hb d_M_rule_17 (by decide) (fun hc => ?_) (fun hc => ?_)
      · rw [if_pos hc] at hf
        refine lv_iconst (v := 1) hx hb d_M_rule_30 (by decide) ?_
        refine lv_goto (tgt := 35) hx hb d_M_rule_31 (by decide) ?_
        refine lv_aload_n hx hb d_M_rule_35 rfl (lv_at hl 0 rfl) ?_
        refine va_get (D := (dC, dI)) (ci := 1) (v := .int n) (C := R_M) (T := F_M) (N := 9) hx hb hts i_M hown hK hP 0 rfl rfl 1 (by decide) (hts _ fl_M_40) (fun _ h9 => h9) rfl d_M_rule_36 ?_
        refine lv_bipush (v := 90) hx hb d_M_rule_39 (by decide) ?_
        refine lv_icmp_ne (tgt := 48) hx hb d_M_rule_41 (by decide) (fun hc => ?_) (fun hc => ?_)
        · rw [if_neg hc] at hf
          refine lv_iconst (v := 0) hx hb d_M_rule_48 (by decide) ?_
          obtain ⟨o7, hco7, hf⟩ := fg_ob_some hf
          refine fgM_i (va_runV (As := [.int 1, .int 0]) (rest := []) ⟨hx, hb, hml, hown, hts⟩ (c_M_refuse l dC dI cI cZ ad _ t n B E C O F L V 1 0 o7 hco7) (cwV 2 hts gv_M_47 rfl rfl rfl (by decide +kernel) ⟨Nat.le_of_ble_eq_true rfl, Nat.le_of_ble_eq_true rfl⟩) (mW_pre hK hP hD) rfl rfl hl.1 rfl (lv_room (Nat.le_of_ble_eq_true rfl)) d_M_rule_49 ⟨Nat.le_of_ble_eq_true rfl, Nat.le_of_ble_eq_true rfl⟩) hP hD hS hA (fun H locs hP hD hS => ?_)
          refine lv_if_eq (tgt := 57) hx hb d_M_rule_52 (by decide) (fun hc => ?_) (fun hc => ?_)
          · rw [if_pos hc] at hf
            refine lv_aload_n hx hb d_M_rule_57 rfl (lv_at hl 0 rfl) ?_
            refine va_get (D := (dC, dI)) (ci := 1) (v := .ref (ad 1)) (C := R_M) (T := F_M) (N := 9) hx hb hts i_M hown hK hP 0 rfl rfl 2 (by decide) (hts _ fl_M_7) (fun _ h9 => h9) rfl d_M_rule_58 ?_
            refine lv_aload_n hx hb d_M_rule_61 rfl (lv_at hl 0 rfl) ?_
            refine va_get (D := (dC, dI)) (ci := 1) (v := .int n) (C := R_M) (T := F_M) (N := 9) hx hb hts i_M hown hK hP 0 rfl rfl 1 (by decide) (hts _ fl_M_40) (fun _ h9 => h9) rfl d_M_rule_62 ?_
            refine lv_iload_n hx hb d_M_rule_65 rfl (lv_at hl 1 rfl) ?_
            obtain ⟨hi, hf⟩ := fg_og_some hf
            refine va_iast hx hb hK hP hD hS 1 0 rfl rfl (ix_in hi) d_M_rule_66 (fun H locs hP hD hS => ?_)
            have hP : va_P (dC, dI) classes (mW cI cZ ad o7.2 n (upd B n.toNatClampNeg p0) E C O F L V) H := hP
            have hD : va_D A (mW cI cZ ad o7.2 n (upd B n.toNatClampNeg p0) E C O F L V) := hD
            refine lv_aload_n hx hb d_M_rule_67 rfl (lv_at hl 0 rfl) ?_
            refine va_get (D := (dC, dI)) (ci := 1) (v := .ref (ad 2)) (C := R_M) (T := F_M) (N := 9) hx hb hts i_M hown hK hP 0 rfl rfl 3 (by decide) (hts _ fl_M_13) (fun _ h9 => h9) rfl d_M_rule_68 ?_
            refine lv_aload_n hx hb d_M_rule_71 rfl (lv_at hl 0 rfl) ?_
            refine va_get (D := (dC, dI)) (ci := 1) (v := .int n) (C := R_M) (T := F_M) (N := 9) hx hb hts i_M hown hK hP 0 rfl rfl 1 (by decide) (hts _ fl_M_40) (fun _ h9 => h9) rfl d_M_rule_72 ?_
            refine lv_iload_n hx hb d_M_rule_75 rfl (lv_at hl 2 rfl) ?_
            obtain ⟨hi, hf⟩ := fg_og_some hf
            refine va_iast hx hb hK hP hD hS 2 0 rfl rfl (ix_in hi) d_M_rule_76 (fun H locs hP hD hS => ?_)
            have hP : va_P (dC, dI) classes (mW cI cZ ad o7.2 n (upd B n.toNatClampNeg p0) (upd E n.toNatClampNeg p1) C O F L V) H := hP
            have hD : va_D A (mW cI cZ ad o7.2 n (upd B n.toNatClampNeg p0) (upd E n.toNatClampNeg p1) C O F L V) := hD
            refine lv_aload_n hx hb d_M_rule_77 rfl (lv_at hl 0 rfl) ?_
            refine va_get (D := (dC, dI)) (ci := 1) (v := .ref (ad 3)) (C := R_M) (T := F_M) (N := 9) hx hb hts i_M hown hK hP 0 rfl rfl 4 (by decide) (hts _ fl_M_16) (fun _ h9 => h9) rfl d_M_rule_78 ?_
            refine lv_aload_n hx hb d_M_rule_81 rfl (lv_at hl 0 rfl) ?_
            refine va_get (D := (dC, dI)) (ci := 1) (v := .int n) (C := R_M) (T := F_M) (N := 9) hx hb hts i_M hown hK hP 0 rfl rfl 1 (by decide) (hts _ fl_M_40) (fun _ h9 => h9) rfl d_M_rule_82 ?_
            refine lv_iload_n hx hb d_M_rule_85 rfl (lv_at hl 3 rfl) ?_
            obtain ⟨hi, hf⟩ := fg_og_some hf
            refine va_iast hx hb hK hP hD hS 3 0 rfl rfl (ix_in hi) d_M_rule_86 (fun H locs hP hD hS => ?_)
            have hP : va_P (dC, dI) classes (mW cI cZ ad o7.2 n (upd B n.toNatClampNeg p0) (upd E n.toNatClampNeg p1) (upd C n.toNatClampNeg p2) O F L V) H := hP
            have hD : va_D A (mW cI cZ ad o7.2 n (upd B n.toNatClampNeg p0) (upd E n.toNatClampNeg p1) (upd C n.toNatClampNeg p2) O F L V) := hD
            refine lv_aload_n hx hb d_M_rule_87 rfl (lv_at hl 0 rfl) ?_
            refine va_get (D := (dC, dI)) (ci := 1) (v := .ref (ad 4)) (C := R_M) (T := F_M) (N := 9) hx hb hts i_M hown hK hP 0 rfl rfl 5 (by decide) (hts _ fl_M_19) (fun _ h9 => h9) rfl d_M_rule_88 ?_
            refine lv_aload_n hx hb d_M_rule_91 rfl (lv_at hl 0 rfl) ?_
            refine va_get (D := (dC, dI)) (ci := 1) (v := .int n) (C := R_M) (T := F_M) (N := 9) hx hb hts i_M hown hK hP 0 rfl rfl 1 (by decide) (hts _ fl_M_40) (fun _ h9 => h9) rfl d_M_rule_92 ?_
            refine lv_iconst (v := 1) hx hb d_M_rule_95 (by decide) ?_
            obtain ⟨hi, hf⟩ := fg_og_some hf
            refine va_zast hx hb hK hP hD hS 4 1 rfl rfl (ix_in hi) d_M_rule_96 (fun H locs hP hD hS => ?_)
            have hP : va_P (dC, dI) classes (mW cI cZ ad o7.2 n (upd B n.toNatClampNeg p0) (upd E n.toNatClampNeg p1) (upd C n.toNatClampNeg p2) (upd O n.toNatClampNeg (vp_nar .boolean 1)) F L V) H := hP
            have hD : va_D A (mW cI cZ ad o7.2 n (upd B n.toNatClampNeg p0) (upd E n.toNatClampNeg p1) (upd C n.toNatClampNeg p2) (upd O n.toNatClampNeg (vp_nar .boolean 1)) F L V) := hD
            refine lv_aload_n hx hb d_M_rule_97 rfl (lv_at hl 0 rfl) ?_
            refine lv_dup hx hb d_M_rule_98 rfl ?_
            refine va_get (D := (dC, dI)) (ci := 1) (v := .int n) (C := R_M) (T := F_M) (N := 9) hx hb hts i_M hown hK hP 0 rfl rfl 1 (by decide) (hts _ fl_M_40) (fun _ h9 => h9) rfl d_M_rule_99 ?_
            refine lv_iconst (v := 1) hx hb d_M_rule_102 (by decide) ?_
            refine lv_iadd hx hb d_M_rule_103 ?_
            refine va_put (D := (dC, dI)) (ci := 1) (v := .int (n + 1)) (ty := .int) (C := R_M) (T := F_M) (N := 9) hx hb hts i_M t_M t_M_ok n_M hown hK hP hD hS 0 rfl rfl 1 (by decide) (hts _ fl_M_40) (fun _ h9 => h9) rfl (by decide +kernel) rfl rfl (Nat.le_of_ble_eq_true rfl) d_M_rule_104 (fun H locs hP hD hS => ?_)
            have hP : va_P (dC, dI) classes (mW cI cZ ad o7.2 (n + 1) (upd B n.toNatClampNeg p0) (upd E n.toNatClampNeg p1) (upd C n.toNatClampNeg p2) (upd O n.toNatClampNeg (vp_nar .boolean 1)) F L V) H := hP
            have hD : va_D A (mW cI cZ ad o7.2 (n + 1) (upd B n.toNatClampNeg p0) (upd E n.toNatClampNeg p1) (upd C n.toNatClampNeg p2) (upd O n.toNatClampNeg (vp_nar .boolean 1)) F L V) := hD
            refine lv_aload_n hx hb d_M_rule_107 rfl (lv_at hl 0 rfl) ?_
            refine va_get (D := (dC, dI)) (ci := 1) (v := .int (n + 1)) (C := R_M) (T := F_M) (N := 9) hx hb hts i_M hown hK hP 0 rfl rfl 1 (by decide) (hts _ fl_M_40) (fun _ h9 => h9) rfl d_M_rule_108 ?_
            refine lv_iconst (v := 1) hx hb d_M_rule_111 (by decide) ?_
            refine lv_isub hx hb d_M_rule_112 ?_
            cases hf
            exact hE _ _ _ _ hP hD hS d_M_rule_113
          · rw [if_neg hc] at hf
            refine lv_iconst (v := 0) hx hb d_M_rule_55 (by decide) ?_
            cases hf
            exact hE _ _ _ _ hP hD hS d_M_rule_56
        · rw [if_pos hc] at hf
          refine lv_iconst (v := 1) hx hb d_M_rule_44 (by decide) ?_
          refine lv_goto (tgt := 49) hx hb d_M_rule_45 (by decide) ?_
          obtain ⟨o8, hco8, hf⟩ := fg_ob_some hf
          refine fgM_i (va_runV (As := [.int 1, .int 1]) (rest := []) ⟨hx, hb, hml, hown, hts⟩ (c_M_refuse l dC dI cI cZ ad _ t n B E C O F L V 1 1 o8 hco8) (cwV 2 hts gv_M_47 rfl rfl rfl (by decide +kernel) ⟨Nat.le_of_ble_eq_true rfl, Nat.le_of_ble_eq_true rfl⟩) (mW_pre hK hP hD) rfl rfl hl.1 rfl (lv_room (Nat.le_of_ble_eq_true rfl)) d_M_rule_49 ⟨Nat.le_of_ble_eq_true rfl, Nat.le_of_ble_eq_true rfl⟩) hP hD hS hA (fun H locs hP hD hS => ?_)
          refine lv_if_eq (tgt := 57) hx hb d_M_rule_52 (by decide) (fun hc => ?_) (fun hc => ?_)
          · rw [if_pos hc] at hf
            refine lv_aload_n hx hb d_M_rule_57 rfl (lv_at hl 0 rfl) ?_
            refine va_get (D := (dC, dI)) (ci := 1) (v := .ref (ad 1)) (C := R_M) (T := F_M) (N := 9) hx hb hts i_M hown hK hP 0 rfl rfl 2 (by decide) (hts _ fl_M_7) (fun _ h9 => h9) rfl d_M_rule_58 ?_
            refine lv_aload_n hx hb d_M_rule_61 rfl (lv_at hl 0 rfl) ?_
            refine va_get (D := (dC, dI)) (ci := 1) (v := .int n) (C := R_M) (T := F_M) (N := 9) hx hb hts i_M hown hK hP 0 rfl rfl 1 (by decide) (hts _ fl_M_40) (fun _ h9 => h9) rfl d_M_rule_62 ?_
            refine lv_iload_n hx hb d_M_rule_65 rfl (lv_at hl 1 rfl) ?_
            obtain ⟨hi, hf⟩ := fg_og_some hf
            refine va_iast hx hb hK hP hD hS 1 0 rfl rfl (ix_in hi) d_M_rule_66 (fun H locs hP hD hS => ?_)
            have hP : va_P (dC, dI) classes (mW cI cZ ad o8.2 n (upd B n.toNatClampNeg p0) E C O F L V) H := hP
            have hD : va_D A (mW cI cZ ad o8.2 n (upd B n.toNatClampNeg p0) E C O F L V) := hD
            refine lv_aload_n hx hb d_M_rule_67 rfl (lv_at hl 0 rfl) ?_
            refine va_get (D := (dC, dI)) (ci := 1) (v := .ref (ad 2)) (C := R_M) (T := F_M) (N := 9) hx hb hts i_M hown hK hP 0 rfl rfl 3 (by decide) (hts _ fl_M_13) (fun _ h9 => h9) rfl d_M_rule_68 ?_
            refine lv_aload_n hx hb d_M_rule_71 rfl (lv_at hl 0 rfl) ?_
            refine va_get (D := (dC, dI)) (ci := 1) (v := .int n) (C := R_M) (T := F_M) (N := 9) hx hb hts i_M hown hK hP 0 rfl rfl 1 (by decide) (hts _ fl_M_40) (fun _ h9 => h9) rfl d_M_rule_72 ?_
            refine lv_iload_n hx hb d_M_rule_75 rfl (lv_at hl 2 rfl) ?_
            obtain ⟨hi, hf⟩ := fg_og_some hf
            refine va_iast hx hb hK hP hD hS 2 0 rfl rfl (ix_in hi) d_M_rule_76 (fun H locs hP hD hS => ?_)
            have hP : va_P (dC, dI) classes (mW cI cZ ad o8.2 n (upd B n.toNatClampNeg p0) (upd E n.toNatClampNeg p1) C O F L V) H := hP
            have hD : va_D A (mW cI cZ ad o8.2 n (upd B n.toNatClampNeg p0) (upd E n.toNatClampNeg p1) C O F L V) := hD
            refine lv_aload_n hx hb d_M_rule_77 rfl (lv_at hl 0 rfl) ?_
            refine va_get (D := (dC, dI)) (ci := 1) (v := .ref (ad 3)) (C := R_M) (T := F_M) (N := 9) hx hb hts i_M hown hK hP 0 rfl rfl 4 (by decide) (hts _ fl_M_16) (fun _ h9 => h9) rfl d_M_rule_78 ?_
            refine lv_aload_n hx hb d_M_rule_81 rfl (lv_at hl 0 rfl) ?_
            refine va_get (D := (dC, dI)) (ci := 1) (v := .int n) (C := R_M) (T := F_M) (N := 9) hx hb hts i_M hown hK hP 0 rfl rfl 1 (by decide) (hts _ fl_M_40) (fun _ h9 => h9) rfl d_M_rule_82 ?_
            refine lv_iload_n hx hb d_M_rule_85 rfl (lv_at hl 3 rfl) ?_
            obtain ⟨hi, hf⟩ := fg_og_some hf
            refine va_iast hx hb hK hP hD hS 3 0 rfl rfl (ix_in hi) d_M_rule_86 (fun H locs hP hD hS => ?_)
            have hP : va_P (dC, dI) classes (mW cI cZ ad o8.2 n (upd B n.toNatClampNeg p0) (upd E n.toNatClampNeg p1) (upd C n.toNatClampNeg p2) O F L V) H := hP
            have hD : va_D A (mW cI cZ ad o8.2 n (upd B n.toNatClampNeg p0) (upd E n.toNatClampNeg p1) (upd C n.toNatClampNeg p2) O F L V) := hD
            refine lv_aload_n hx hb d_M_rule_87 rfl (lv_at hl 0 rfl) ?_
            refine va_get (D := (dC, dI)) (ci := 1) (v := .ref (ad 4)) (C := R_M) (T := F_M) (N := 9) hx hb hts i_M hown hK hP 0 rfl rfl 5 (by decide) (hts _ fl_M_19) (fun _ h9 => h9) rfl d_M_rule_88 ?_
            refine lv_aload_n hx hb d_M_rule_91 rfl (lv_at hl 0 rfl) ?_
            refine va_get (D := (dC, dI)) (ci := 1) (v := .int n) (C := R_M) (T := F_M) (N := 9) hx hb hts i_M hown hK hP 0 rfl rfl 1 (by decide) (hts _ fl_M_40) (fun _ h9 => h9) rfl d_M_rule_92 ?_
            refine lv_iconst (v := 1) hx hb d_M_rule_95 (by decide) ?_
            obtain ⟨hi, hf⟩ := fg_og_some hf
            refine va_zast hx hb hK hP hD hS 4 1 rfl rfl (ix_in hi) d_M_rule_96 (fun H locs hP hD hS => ?_)
            have hP : va_P (dC, dI) classes (mW cI cZ ad o8.2 n (upd B n.toNatClampNeg p0) (upd E n.toNatClampNeg p1) (upd C n.toNatClampNeg p2) (upd O n.toNatClampNeg (vp_nar .boolean 1)) F L V) H := hP
            have hD : va_D A (mW cI cZ ad o8.2 n (upd B n.toNatClampNeg p0) (upd E n.toNatClampNeg p1) (upd C n.toNatClampNeg p2) (upd O n.toNatClampNeg (vp_nar .boolean 1)) F L V) := hD
            refine lv_aload_n hx hb d_M_rule_97 rfl (lv_at hl 0 rfl) ?_
            refine lv_dup hx hb d_M_rule_98 rfl ?_
            refine va_get (D := (dC, dI)) (ci := 1) (v := .int n) (C := R_M) (T := F_M) (N := 9) hx hb hts i_M hown hK hP 0 rfl rfl 1 (by decide) (hts _ fl_M_40) (fun _ h9 => h9) rfl d_M_rule_99 ?_
            refine lv_iconst (v := 1) hx hb d_M_rule_102 (by decide) ?_
            refine lv_iadd hx hb d_M_rule_103 ?_
            refine va_put (D := (dC, dI)) (ci := 1) (v := .int (n + 1)) (ty := .int) (C := R_M) (T := F_M) (N := 9) hx hb hts i_M t_M t_M_ok n_M hown hK hP hD hS 0 rfl rfl 1 (by decide) (hts _ fl_M_40) (fun _ h9 => h9) rfl (by decide +kernel) rfl rfl (Nat.le_of_ble_eq_true rfl) d_M_rule_104 (fun H locs hP hD hS => ?_)
            have hP : va_P (dC, dI) classes (mW cI cZ ad o8.2 (n + 1) (upd B n.toNatClampNeg p0) (upd E n.toNatClampNeg p1) (upd C n.toNatClampNeg p2) (upd O n.toNatClampNeg (vp_nar .boolean 1)) F L V) H := hP
            have hD : va_D A (mW cI cZ ad o8.2 (n + 1) (upd B n.toNatClampNeg p0) (upd E n.toNatClampNeg p1) (upd C n.toNatClampNeg p2) (upd O n.toNatClampNeg (vp_nar .boolean 1)) F L V) := hD
            refine lv_aload_n hx hb d_M_rule_107 rfl (lv_at hl 0 rfl) ?_
            refine va_get (D := (dC, dI)) (ci := 1) (v := .int (n + 1)) (C := R_M) (T := F_M) (N := 9) hx hb hts i_M hown hK hP 0 rfl rfl 1 (by decide) (hts _ fl_M_40) (fun _ h9 => h9) rfl d_M_rule_108 ?_
            refine lv_iconst (v := 1) hx hb d_M_rule_111 (by decide) ?_
            refine lv_isub hx hb d_M_rule_112 ?_
            cases hf
            exact hE _ _ _ _ hP hD hS d_M_rule_113
          · rw [if_neg hc] at hf
            refine lv_iconst (v := 0) hx hb d_M_rule_55 (by decide) ?_
            cases hf
            exact hE _ _ _ _ hP hD hS d_M_rule_56
      · rw [if_neg hc] at hf
        refine lv_iload_n hx hb d_M_rule_20 rfl (lv_at hl 3 rfl) ?_
        refine lv_iconst (v := 1) hx hb d_M_rule_21 (by decide) ?_
        refine lv_bipush (v := 9) hx hb d_M_rule_22 (by decide) ?_
        obtain ⟨o9, hco9, hf⟩ := fg_ob_some hf
        refine fg_r0 (W.runS (As := [.int p2, .int 1, .int 9]) (rest := [.ref (ad 0)]) ⟨hx, hb, hml, hown, hts⟩ (c_M_in l p2 1 9 o9 hco9) (cwS 3 hts gs_M_36 rfl rfl rfl (by decide +kernel) ⟨Nat.le_of_ble_eq_true rfl, Nat.le_of_ble_eq_true rfl⟩) preEq rfl rfl hl.1 rfl (lv_room (Nat.le_of_ble_eq_true rfl)) d_M_rule_24 ⟨Nat.le_of_ble_eq_true rfl, Nat.le_of_ble_eq_true rfl⟩) ?_
        refine lv_if_ne (tgt := 34) hx hb d_M_rule_27 (by decide) (fun hc => ?_) (fun hc => ?_)
        · rw [if_neg hc] at hf
          refine lv_iconst (v := 0) hx hb d_M_rule_34 (by decide) ?_
          refine lv_aload_n hx hb d_M_rule_35 rfl (lv_at hl 0 rfl) ?_
          refine va_get (D := (dC, dI)) (ci := 1) (v := .int n) (C := R_M) (T := F_M) (N := 9) hx hb hts i_M hown hK hP 0 rfl rfl 1 (by decide) (hts _ fl_M_40) (fun _ h9 => h9) rfl d_M_rule_36 ?_
          refine lv_bipush (v := 90) hx hb d_M_rule_39 (by decide) ?_
          refine lv_icmp_ne (tgt := 48) hx hb d_M_rule_41 (by decide) (fun hc => ?_) (fun hc => ?_)
          · rw [if_neg hc] at hf
            refine lv_iconst (v := 0) hx hb d_M_rule_48 (by decide) ?_
            obtain ⟨o10, hco10, hf⟩ := fg_ob_some hf
            refine fgM_i (va_runV (As := [.int 0, .int 0]) (rest := []) ⟨hx, hb, hml, hown, hts⟩ (c_M_refuse l dC dI cI cZ ad _ t n B E C O F L V 0 0 o10 hco10) (cwV 2 hts gv_M_47 rfl rfl rfl (by decide +kernel) ⟨Nat.le_of_ble_eq_true rfl, Nat.le_of_ble_eq_true rfl⟩) (mW_pre hK hP hD) rfl rfl hl.1 rfl (lv_room (Nat.le_of_ble_eq_true rfl)) d_M_rule_49 ⟨Nat.le_of_ble_eq_true rfl, Nat.le_of_ble_eq_true rfl⟩) hP hD hS hA (fun H locs hP hD hS => ?_)
            refine lv_if_eq (tgt := 57) hx hb d_M_rule_52 (by decide) (fun hc => ?_) (fun hc => ?_)
            · rw [if_pos hc] at hf
              refine lv_aload_n hx hb d_M_rule_57 rfl (lv_at hl 0 rfl) ?_
              refine va_get (D := (dC, dI)) (ci := 1) (v := .ref (ad 1)) (C := R_M) (T := F_M) (N := 9) hx hb hts i_M hown hK hP 0 rfl rfl 2 (by decide) (hts _ fl_M_7) (fun _ h9 => h9) rfl d_M_rule_58 ?_
              refine lv_aload_n hx hb d_M_rule_61 rfl (lv_at hl 0 rfl) ?_
              refine va_get (D := (dC, dI)) (ci := 1) (v := .int n) (C := R_M) (T := F_M) (N := 9) hx hb hts i_M hown hK hP 0 rfl rfl 1 (by decide) (hts _ fl_M_40) (fun _ h9 => h9) rfl d_M_rule_62 ?_
              refine lv_iload_n hx hb d_M_rule_65 rfl (lv_at hl 1 rfl) ?_
              obtain ⟨hi, hf⟩ := fg_og_some hf
              refine va_iast hx hb hK hP hD hS 1 0 rfl rfl (ix_in hi) d_M_rule_66 (fun H locs hP hD hS => ?_)
              have hP : va_P (dC, dI) classes (mW cI cZ ad o10.2 n (upd B n.toNatClampNeg p0) E C O F L V) H := hP
              have hD : va_D A (mW cI cZ ad o10.2 n (upd B n.toNatClampNeg p0) E C O F L V) := hD
              refine lv_aload_n hx hb d_M_rule_67 rfl (lv_at hl 0 rfl) ?_
              refine va_get (D := (dC, dI)) (ci := 1) (v := .ref (ad 2)) (C := R_M) (T := F_M) (N := 9) hx hb hts i_M hown hK hP 0 rfl rfl 3 (by decide) (hts _ fl_M_13) (fun _ h9 => h9) rfl d_M_rule_68 ?_
              refine lv_aload_n hx hb d_M_rule_71 rfl (lv_at hl 0 rfl) ?_
              refine va_get (D := (dC, dI)) (ci := 1) (v := .int n) (C := R_M) (T := F_M) (N := 9) hx hb hts i_M hown hK hP 0 rfl rfl 1 (by decide) (hts _ fl_M_40) (fun _ h9 => h9) rfl d_M_rule_72 ?_
              refine lv_iload_n hx hb d_M_rule_75 rfl (lv_at hl 2 rfl) ?_
              obtain ⟨hi, hf⟩ := fg_og_some hf
              refine va_iast hx hb hK hP hD hS 2 0 rfl rfl (ix_in hi) d_M_rule_76 (fun H locs hP hD hS => ?_)
              have hP : va_P (dC, dI) classes (mW cI cZ ad o10.2 n (upd B n.toNatClampNeg p0) (upd E n.toNatClampNeg p1) C O F L V) H := hP
              have hD : va_D A (mW cI cZ ad o10.2 n (upd B n.toNatClampNeg p0) (upd E n.toNatClampNeg p1) C O F L V) := hD
              refine lv_aload_n hx hb d_M_rule_77 rfl (lv_at hl 0 rfl) ?_
              refine va_get (D := (dC, dI)) (ci := 1) (v := .ref (ad 3)) (C := R_M) (T := F_M) (N := 9) hx hb hts i_M hown hK hP 0 rfl rfl 4 (by decide) (hts _ fl_M_16) (fun _ h9 => h9) rfl d_M_rule_78 ?_
              refine lv_aload_n hx hb d_M_rule_81 rfl (lv_at hl 0 rfl) ?_
              refine va_get (D := (dC, dI)) (ci := 1) (v := .int n) (C := R_M) (T := F_M) (N := 9) hx hb hts i_M hown hK hP 0 rfl rfl 1 (by decide) (hts _ fl_M_40) (fun _ h9 => h9) rfl d_M_rule_82 ?_
              refine lv_iload_n hx hb d_M_rule_85 rfl (lv_at hl 3 rfl) ?_
              obtain ⟨hi, hf⟩ := fg_og_some hf
              refine va_iast hx hb hK hP hD hS 3 0 rfl rfl (ix_in hi) d_M_rule_86 (fun H locs hP hD hS => ?_)
              have hP : va_P (dC, dI) classes (mW cI cZ ad o10.2 n (upd B n.toNatClampNeg p0) (upd E n.toNatClampNeg p1) (upd C n.toNatClampNeg p2) O F L V) H := hP
              have hD : va_D A (mW cI cZ ad o10.2 n (upd B n.toNatClampNeg p0) (upd E n.toNatClampNeg p1) (upd C n.toNatClampNeg p2) O F L V) := hD
              refine lv_aload_n hx hb d_M_rule_87 rfl (lv_at hl 0 rfl) ?_
              refine va_get (D := (dC, dI)) (ci := 1) (v := .ref (ad 4)) (C := R_M) (T := F_M) (N := 9) hx hb hts i_M hown hK hP 0 rfl rfl 5 (by decide) (hts _ fl_M_19) (fun _ h9 => h9) rfl d_M_rule_88 ?_
              refine lv_aload_n hx hb d_M_rule_91 rfl (lv_at hl 0 rfl) ?_
              refine va_get (D := (dC, dI)) (ci := 1) (v := .int n) (C := R_M) (T := F_M) (N := 9) hx hb hts i_M hown hK hP 0 rfl rfl 1 (by decide) (hts _ fl_M_40) (fun _ h9 => h9) rfl d_M_rule_92 ?_
              refine lv_iconst (v := 1) hx hb d_M_rule_95 (by decide) ?_
              obtain ⟨hi, hf⟩ := fg_og_some hf
              refine va_zast hx hb hK hP hD hS 4 1 rfl rfl (ix_in hi) d_M_rule_96 (fun H locs hP hD hS => ?_)
              have hP : va_P (dC, dI) classes (mW cI cZ ad o10.2 n (upd B n.toNatClampNeg p0) (upd E n.toNatClampNeg p1) (upd C n.toNatClampNeg p2) (upd O n.toNatClampNeg (vp_nar .boolean 1)) F L V) H := hP
              have hD : va_D A (mW cI cZ ad o10.2 n (upd B n.toNatClampNeg p0) (upd E n.toNatClampNeg p1) (upd C n.toNatClampNeg p2) (upd O n.toNatClampNeg (vp_nar .boolean 1)) F L V) := hD
              refine lv_aload_n hx hb d_M_rule_97 rfl (lv_at hl 0 rfl) ?_
              refine lv_dup hx hb d_M_rule_98 rfl ?_
              refine va_get (D := (dC, dI)) (ci := 1) (v := .int n) (C := R_M) (T := F_M) (N := 9) hx hb hts i_M hown hK hP 0 rfl rfl 1 (by decide) (hts _ fl_M_40) (fun _ h9 => h9) rfl d_M_rule_99 ?_
              refine lv_iconst (v := 1) hx hb d_M_rule_102 (by decide) ?_
              refine lv_iadd hx hb d_M_rule_103 ?_
              refine va_put (D := (dC, dI)) (ci := 1) (v := .int (n + 1)) (ty := .int) (C := R_M) (T := F_M) (N := 9) hx hb hts i_M t_M t_M_ok n_M hown hK hP hD hS 0 rfl rfl 1 (by decide) (hts _ fl_M_40) (fun _ h9 => h9) rfl (by decide +kernel) rfl rfl (Nat.le_of_ble_eq_true rfl) d_M_rule_104 (fun H locs hP hD hS => ?_)
              have hP : va_P (dC, dI) classes (mW cI cZ ad o10.2 (n + 1) (upd B n.toNatClampNeg p0) (upd E n.toNatClampNeg p1) (upd C n.toNatClampNeg p2) (upd O n.toNatClampNeg (vp_nar .boolean 1)) F L V) H := hP
              have hD : va_D A (mW cI cZ ad o10.2 (n + 1) (upd B n.toNatClampNeg p0) (upd E n.toNatClampNeg p1) (upd C n.toNatClampNeg p2) (upd O n.toNatClampNeg (vp_nar .boolean 1)) F L V) := hD
              refine lv_aload_n hx hb d_M_rule_107 rfl (lv_at hl 0 rfl) ?_
              refine va_get (D := (dC, dI)) (ci := 1) (v := .int (n + 1)) (C := R_M) (T := F_M) (N := 9) hx hb hts i_M hown hK hP 0 rfl rfl 1 (by decide) (hts _ fl_M_40) (fun _ h9 => h9) rfl d_M_rule_108 ?_
              refine lv_iconst (v := 1) hx hb d_M_rule_111 (by decide) ?_
              refine lv_isub hx hb d_M_rule_112 ?_
              cases hf
              exact hE _ _ _ _ hP hD hS d_M_rule_113
            · rw [if_neg hc] at hf
              refine lv_iconst (v := 0) hx hb d_M_rule_55 (by decide) ?_
              cases hf
              exact hE _ _ _ _ hP hD hS d_M_rule_56
          · rw [if_pos hc] at hf
            refine lv_iconst (v := 1) hx hb d_M_rule_44 (by decide) ?_
            refine lv_goto (tgt := 49) hx hb d_M_rule_45 (by decide) ?_
            obtain ⟨o11, hco11, hf⟩ := fg_ob_some hf
            refine fgM_i (va_runV (As := [.int 0, .int 1]) (rest := []) ⟨hx, hb, hml, hown, hts⟩ (c_M_refuse l dC dI cI cZ ad _ t n B E C O F L V 0 1 o11 hco11) (cwV 2 hts gv_M_47 rfl rfl rfl (by decide +kernel) ⟨Nat.le_of_ble_eq_true rfl, Nat.le_of_ble_eq_true rfl⟩) (mW_pre hK hP hD) rfl rfl hl.1 rfl (lv_room (Nat.le_of_ble_eq_true rfl)) d_M_rule_49 ⟨Nat.le_of_ble_eq_true rfl, Nat.le_of_ble_eq_true rfl⟩) hP hD hS hA (fun H locs hP hD hS => ?_)
            refine lv_if_eq (tgt := 57) hx hb d_M_rule_52 (by decide) (fun hc => ?_) (fun hc => ?_)
            · rw [if_pos hc] at hf
              refine lv_aload_n hx hb d_M_rule_57 rfl (lv_at hl 0 rfl) ?_
              refine va_get (D := (dC, dI)) (ci := 1) (v := .ref (ad 1)) (C := R_M) (T := F_M) (N := 9) hx hb hts i_M hown hK hP 0 rfl rfl 2 (by decide) (hts _ fl_M_7) (fun _ h9 => h9) rfl d_M_rule_58 ?_
              refine lv_aload_n hx hb d_M_rule_61 rfl (lv_at hl 0 rfl) ?_
              refine va_get (D := (dC, dI)) (ci := 1) (v := .int n) (C := R_M) (T := F_M) (N := 9) hx hb hts i_M hown hK hP 0 rfl rfl 1 (by decide) (hts _ fl_M_40) (fun _ h9 => h9) rfl d_M_rule_62 ?_
              refine lv_iload_n hx hb d_M_rule_65 rfl (lv_at hl 1 rfl) ?_
              obtain ⟨hi, hf⟩ := fg_og_some hf
              refine va_iast hx hb hK hP hD hS 1 0 rfl rfl (ix_in hi) d_M_rule_66 (fun H locs hP hD hS => ?_)
              have hP : va_P (dC, dI) classes (mW cI cZ ad o11.2 n (upd B n.toNatClampNeg p0) E C O F L V) H := hP
              have hD : va_D A (mW cI cZ ad o11.2 n (upd B n.toNatClampNeg p0) E C O F L V) := hD
              refine lv_aload_n hx hb d_M_rule_67 rfl (lv_at hl 0 rfl) ?_
              refine va_get (D := (dC, dI)) (ci := 1) (v := .ref (ad 2)) (C := R_M) (T := F_M) (N := 9) hx hb hts i_M hown hK hP 0 rfl rfl 3 (by decide) (hts _ fl_M_13) (fun _ h9 => h9) rfl d_M_rule_68 ?_
              refine lv_aload_n hx hb d_M_rule_71 rfl (lv_at hl 0 rfl) ?_
              refine va_get (D := (dC, dI)) (ci := 1) (v := .int n) (C := R_M) (T := F_M) (N := 9) hx hb hts i_M hown hK hP 0 rfl rfl 1 (by decide) (hts _ fl_M_40) (fun _ h9 => h9) rfl d_M_rule_72 ?_
              refine lv_iload_n hx hb d_M_rule_75 rfl (lv_at hl 2 rfl) ?_
              obtain ⟨hi, hf⟩ := fg_og_some hf
              refine va_iast hx hb hK hP hD hS 2 0 rfl rfl (ix_in hi) d_M_rule_76 (fun H locs hP hD hS => ?_)
              have hP : va_P (dC, dI) classes (mW cI cZ ad o11.2 n (upd B n.toNatClampNeg p0) (upd E n.toNatClampNeg p1) C O F L V) H := hP
              have hD : va_D A (mW cI cZ ad o11.2 n (upd B n.toNatClampNeg p0) (upd E n.toNatClampNeg p1) C O F L V) := hD
              refine lv_aload_n hx hb d_M_rule_77 rfl (lv_at hl 0 rfl) ?_
              refine va_get (D := (dC, dI)) (ci := 1) (v := .ref (ad 3)) (C := R_M) (T := F_M) (N := 9) hx hb hts i_M hown hK hP 0 rfl rfl 4 (by decide) (hts _ fl_M_16) (fun _ h9 => h9) rfl d_M_rule_78 ?_
              refine lv_aload_n hx hb d_M_rule_81 rfl (lv_at hl 0 rfl) ?_
              refine va_get (D := (dC, dI)) (ci := 1) (v := .int n) (C := R_M) (T := F_M) (N := 9) hx hb hts i_M hown hK hP 0 rfl rfl 1 (by decide) (hts _ fl_M_40) (fun _ h9 => h9) rfl d_M_rule_82 ?_
              refine lv_iload_n hx hb d_M_rule_85 rfl (lv_at hl 3 rfl) ?_
              obtain ⟨hi, hf⟩ := fg_og_some hf
              refine va_iast hx hb hK hP hD hS 3 0 rfl rfl (ix_in hi) d_M_rule_86 (fun H locs hP hD hS => ?_)
              have hP : va_P (dC, dI) classes (mW cI cZ ad o11.2 n (upd B n.toNatClampNeg p0) (upd E n.toNatClampNeg p1) (upd C n.toNatClampNeg p2) O F L V) H := hP
              have hD : va_D A (mW cI cZ ad o11.2 n (upd B n.toNatClampNeg p0) (upd E n.toNatClampNeg p1) (upd C n.toNatClampNeg p2) O F L V) := hD
              refine lv_aload_n hx hb d_M_rule_87 rfl (lv_at hl 0 rfl) ?_
              refine va_get (D := (dC, dI)) (ci := 1) (v := .ref (ad 4)) (C := R_M) (T := F_M) (N := 9) hx hb hts i_M hown hK hP 0 rfl rfl 5 (by decide) (hts _ fl_M_19) (fun _ h9 => h9) rfl d_M_rule_88 ?_
              refine lv_aload_n hx hb d_M_rule_91 rfl (lv_at hl 0 rfl) ?_
              refine va_get (D := (dC, dI)) (ci := 1) (v := .int n) (C := R_M) (T := F_M) (N := 9) hx hb hts i_M hown hK hP 0 rfl rfl 1 (by decide) (hts _ fl_M_40) (fun _ h9 => h9) rfl d_M_rule_92 ?_
              refine lv_iconst (v := 1) hx hb d_M_rule_95 (by decide) ?_
              obtain ⟨hi, hf⟩ := fg_og_some hf
              refine va_zast hx hb hK hP hD hS 4 1 rfl rfl (ix_in hi) d_M_rule_96 (fun H locs hP hD hS => ?_)
              have hP : va_P (dC, dI) classes (mW cI cZ ad o11.2 n (upd B n.toNatClampNeg p0) (upd E n.toNatClampNeg p1) (upd C n.toNatClampNeg p2) (upd O n.toNatClampNeg (vp_nar .boolean 1)) F L V) H := hP
              have hD : va_D A (mW cI cZ ad o11.2 n (upd B n.toNatClampNeg p0) (upd E n.toNatClampNeg p1) (upd C n.toNatClampNeg p2) (upd O n.toNatClampNeg (vp_nar .boolean 1)) F L V) := hD
              refine lv_aload_n hx hb d_M_rule_97 rfl (lv_at hl 0 rfl) ?_
              refine lv_dup hx hb d_M_rule_98 rfl ?_
              refine va_get (D := (dC, dI)) (ci := 1) (v := .int n) (C := R_M) (T := F_M) (N := 9) hx hb hts i_M hown hK hP 0 rfl rfl 1 (by decide) (hts _ fl_M_40) (fun _ h9 => h9) rfl d_M_rule_99 ?_
              refine lv_iconst (v := 1) hx hb d_M_rule_102 (by decide) ?_
              refine lv_iadd hx hb d_M_rule_103 ?_
              refine va_put (D := (dC, dI)) (ci := 1) (v := .int (n + 1)) (ty := .int) (C := R_M) (T := F_M) (N := 9) hx hb hts i_M t_M t_M_ok n_M hown hK hP hD hS 0 rfl rfl 1 (by decide) (hts _ fl_M_40) (fun _ h9 => h9) rfl (by decide +kernel) rfl rfl (Nat.le_of_ble_eq_true rfl) d_M_rule_104 (fun H locs hP hD hS => ?_)
              have hP : va_P (dC, dI) classes (mW cI cZ ad o11.2 (n + 1) (upd B n.toNatClampNeg p0) (upd E n.toNatClampNeg p1) (upd C n.toNatClampNeg p2) (upd O n.toNatClampNeg (vp_nar .boolean 1)) F L V) H := hP
              have hD : va_D A (mW cI cZ ad o11.2 (n + 1) (upd B n.toNatClampNeg p0) (upd E n.toNatClampNeg p1) (upd C n.toNatClampNeg p2) (upd O n.toNatClampNeg (vp_nar .boolean 1)) F L V) := hD
              refine lv_aload_n hx hb d_M_rule_107 rfl (lv_at hl 0 rfl) ?_
              refine va_get (D := (dC, dI)) (ci := 1) (v := .int (n + 1)) (C := R_M) (T := F_M) (N := 9) hx hb hts i_M hown hK hP 0 rfl rfl 1 (by decide) (hts _ fl_M_40) (fun _ h9 => h9) rfl d_M_rule_108 ?_
              refine lv_iconst (v := 1) hx hb d_M_rule_111 (by decide) ?_
              refine lv_isub hx hb d_M_rule_112 ?_
              cases hf
              exact hE _ _ _ _ hP hD hS d_M_rule_113
            · rw [if_neg hc] at hf
              refine lv_iconst (v := 0) hx hb d_M_rule_55 (by decide) ?_
              cases hf
              exact hE _ _ _ _ hP hD hS d_M_rule_56
        · rw [if_pos hc] at hf
          refine lv_iconst (v := 1) hx hb d_M_rule_30 (by decide) ?_
          refine lv_goto (tgt := 35) hx hb d_M_rule_31 (by decide) ?_
          refine lv_aload_n hx hb d_M_rule_35 rfl (lv_at hl 0 rfl) ?_
          refine va_get (D := (dC, dI)) (ci := 1) (v := .int n) (C := R_M) (T := F_M) (N := 9) hx hb hts i_M hown hK hP 0 rfl rfl 1 (by decide) (hts _ fl_M_40) (fun _ h9 => h9) rfl d_M_rule_36 ?_
          refine lv_bipush (v := 90) hx hb d_M_rule_39 (by decide) ?_
          refine lv_icmp_ne (tgt := 48) hx hb d_M_rule_41 (by decide) (fun hc => ?_) (fun hc => ?_)
          · rw [if_neg hc] at hf
            refine lv_iconst (v := 0) hx hb d_M_rule_48 (by decide) ?_
            obtain ⟨o12, hco12, hf⟩ := fg_ob_some hf
            refine fgM_i (va_runV (As := [.int 1, .int 0]) (rest := []) ⟨hx, hb, hml, hown, hts⟩ (c_M_refuse l dC dI cI cZ ad _ t n B E C O F L V 1 0 o12 hco12) (cwV 2 hts gv_M_47 rfl rfl rfl (by decide +kernel) ⟨Nat.le_of_ble_eq_true rfl, Nat.le_of_ble_eq_true rfl⟩) (mW_pre hK hP hD) rfl rfl hl.1 rfl (lv_room (Nat.le_of_ble_eq_true rfl)) d_M_rule_49 ⟨Nat.le_of_ble_eq_true rfl, Nat.le_of_ble_eq_true rfl⟩) hP hD hS hA (fun H locs hP hD hS => ?_)
            refine lv_if_eq (tgt := 57) hx hb d_M_rule_52 (by decide) (fun hc => ?_) (fun hc => ?_)
            · rw [if_pos hc] at hf
              refine lv_aload_n hx hb d_M_rule_57 rfl (lv_at hl 0 rfl) ?_
              refine va_get (D := (dC, dI)) (ci := 1) (v := .ref (ad 1)) (C := R_M) (T := F_M) (N := 9) hx hb hts i_M hown hK hP 0 rfl rfl 2 (by decide) (hts _ fl_M_7) (fun _ h9 => h9) rfl d_M_rule_58 ?_
              refine lv_aload_n hx hb d_M_rule_61 rfl (lv_at hl 0 rfl) ?_
              refine va_get (D := (dC, dI)) (ci := 1) (v := .int n) (C := R_M) (T := F_M) (N := 9) hx hb hts i_M hown hK hP 0 rfl rfl 1 (by decide) (hts _ fl_M_40) (fun _ h9 => h9) rfl d_M_rule_62 ?_
              refine lv_iload_n hx hb d_M_rule_65 rfl (lv_at hl 1 rfl) ?_
              obtain ⟨hi, hf⟩ := fg_og_some hf
              refine va_iast hx hb hK hP hD hS 1 0 rfl rfl (ix_in hi) d_M_rule_66 (fun H locs hP hD hS => ?_)
              have hP : va_P (dC, dI) classes (mW cI cZ ad o12.2 n (upd B n.toNatClampNeg p0) E C O F L V) H := hP
              have hD : va_D A (mW cI cZ ad o12.2 n (upd B n.toNatClampNeg p0) E C O F L V) := hD
              refine lv_aload_n hx hb d_M_rule_67 rfl (lv_at hl 0 rfl) ?_
              refine va_get (D := (dC, dI)) (ci := 1) (v := .ref (ad 2)) (C := R_M) (T := F_M) (N := 9) hx hb hts i_M hown hK hP 0 rfl rfl 3 (by decide) (hts _ fl_M_13) (fun _ h9 => h9) rfl d_M_rule_68 ?_
              refine lv_aload_n hx hb d_M_rule_71 rfl (lv_at hl 0 rfl) ?_
              refine va_get (D := (dC, dI)) (ci := 1) (v := .int n) (C := R_M) (T := F_M) (N := 9) hx hb hts i_M hown hK hP 0 rfl rfl 1 (by decide) (hts _ fl_M_40) (fun _ h9 => h9) rfl d_M_rule_72 ?_
              refine lv_iload_n hx hb d_M_rule_75 rfl (lv_at hl 2 rfl) ?_
              obtain ⟨hi, hf⟩ := fg_og_some hf
              refine va_iast hx hb hK hP hD hS 2 0 rfl rfl (ix_in hi) d_M_rule_76 (fun H locs hP hD hS => ?_)
              have hP : va_P (dC, dI) classes (mW cI cZ ad o12.2 n (upd B n.toNatClampNeg p0) (upd E n.toNatClampNeg p1) C O F L V) H := hP
              have hD : va_D A (mW cI cZ ad o12.2 n (upd B n.toNatClampNeg p0) (upd E n.toNatClampNeg p1) C O F L V) := hD
              refine lv_aload_n hx hb d_M_rule_77 rfl (lv_at hl 0 rfl) ?_
              refine va_get (D := (dC, dI)) (ci := 1) (v := .ref (ad 3)) (C := R_M) (T := F_M) (N := 9) hx hb hts i_M hown hK hP 0 rfl rfl 4 (by decide) (hts _ fl_M_16) (fun _ h9 => h9) rfl d_M_rule_78 ?_
              refine lv_aload_n hx hb d_M_rule_81 rfl (lv_at hl 0 rfl) ?_
              refine va_get (D := (dC, dI)) (ci := 1) (v := .int n) (C := R_M) (T := F_M) (N := 9) hx hb hts i_M hown hK hP 0 rfl rfl 1 (by decide) (hts _ fl_M_40) (fun _ h9 => h9) rfl d_M_rule_82 ?_
              refine lv_iload_n hx hb d_M_rule_85 rfl (lv_at hl 3 rfl) ?_
              obtain ⟨hi, hf⟩ := fg_og_some hf
              refine va_iast hx hb hK hP hD hS 3 0 rfl rfl (ix_in hi) d_M_rule_86 (fun H locs hP hD hS => ?_)
              have hP : va_P (dC, dI) classes (mW cI cZ ad o12.2 n (upd B n.toNatClampNeg p0) (upd E n.toNatClampNeg p1) (upd C n.toNatClampNeg p2) O F L V) H := hP
              have hD : va_D A (mW cI cZ ad o12.2 n (upd B n.toNatClampNeg p0) (upd E n.toNatClampNeg p1) (upd C n.toNatClampNeg p2) O F L V) := hD
              refine lv_aload_n hx hb d_M_rule_87 rfl (lv_at hl 0 rfl) ?_
              refine va_get (D := (dC, dI)) (ci := 1) (v := .ref (ad 4)) (C := R_M) (T := F_M) (N := 9) hx hb hts i_M hown hK hP 0 rfl rfl 5 (by decide) (hts _ fl_M_19) (fun _ h9 => h9) rfl d_M_rule_88 ?_
              refine lv_aload_n hx hb d_M_rule_91 rfl (lv_at hl 0 rfl) ?_
              refine va_get (D := (dC, dI)) (ci := 1) (v := .int n) (C := R_M) (T := F_M) (N := 9) hx hb hts i_M hown hK hP 0 rfl rfl 1 (by decide) (hts _ fl_M_40) (fun _ h9 => h9) rfl d_M_rule_92 ?_
              refine lv_iconst (v := 1) hx hb d_M_rule_95 (by decide) ?_
              obtain ⟨hi, hf⟩ := fg_og_some hf
              refine va_zast hx hb hK hP hD hS 4 1 rfl rfl (ix_in hi) d_M_rule_96 (fun H locs hP hD hS => ?_)
              have hP : va_P (dC, dI) classes (mW cI cZ ad o12.2 n (upd B n.toNatClampNeg p0) (upd E n.toNatClampNeg p1) (upd C n.toNatClampNeg p2) (upd O n.toNatClampNeg (vp_nar .boolean 1)) F L V) H := hP
              have hD : va_D A (mW cI cZ ad o12.2 n (upd B n.toNatClampNeg p0) (upd E n.toNatClampNeg p1) (upd C n.toNatClampNeg p2) (upd O n.toNatClampNeg (vp_nar .boolean 1)) F L V) := hD
              refine lv_aload_n hx hb d_M_rule_97 rfl (lv_at hl 0 rfl) ?_
              refine lv_dup hx hb d_M_rule_98 rfl ?_
              refine va_get (D := (dC, dI)) (ci := 1) (v := .int n) (C := R_M) (T := F_M) (N := 9) hx hb hts i_M hown hK hP 0 rfl rfl 1 (by decide) (hts _ fl_M_40) (fun _ h9 => h9) rfl d_M_rule_99 ?_
              refine lv_iconst (v := 1) hx hb d_M_rule_102 (by decide) ?_
              refine lv_iadd hx hb d_M_rule_103 ?_
              refine va_put (D := (dC, dI)) (ci := 1) (v := .int (n + 1)) (ty := .int) (C := R_M) (T := F_M) (N := 9) hx hb hts i_M t_M t_M_ok n_M hown hK hP hD hS 0 rfl rfl 1 (by decide) (hts _ fl_M_40) (fun _ h9 => h9) rfl (by decide +kernel) rfl rfl (Nat.le_of_ble_eq_true rfl) d_M_rule_104 (fun H locs hP hD hS => ?_)
              have hP : va_P (dC, dI) classes (mW cI cZ ad o12.2 (n + 1) (upd B n.toNatClampNeg p0) (upd E n.toNatClampNeg p1) (upd C n.toNatClampNeg p2) (upd O n.toNatClampNeg (vp_nar .boolean 1)) F L V) H := hP
              have hD : va_D A (mW cI cZ ad o12.2 (n + 1) (upd B n.toNatClampNeg p0) (upd E n.toNatClampNeg p1) (upd C n.toNatClampNeg p2) (upd O n.toNatClampNeg (vp_nar .boolean 1)) F L V) := hD
              refine lv_aload_n hx hb d_M_rule_107 rfl (lv_at hl 0 rfl) ?_
              refine va_get (D := (dC, dI)) (ci := 1) (v := .int (n + 1)) (C := R_M) (T := F_M) (N := 9) hx hb hts i_M hown hK hP 0 rfl rfl 1 (by decide) (hts _ fl_M_40) (fun _ h9 => h9) rfl d_M_rule_108 ?_
              refine lv_iconst (v := 1) hx hb d_M_rule_111 (by decide) ?_
              refine lv_isub hx hb d_M_rule_112 ?_
              cases hf
              exact hE _ _ _ _ hP hD hS d_M_rule_113
            · rw [if_neg hc] at hf
              refine lv_iconst (v := 0) hx hb d_M_rule_55 (by decide) ?_
              cases hf
              exact hE _ _ _ _ hP hD hS d_M_rule_56
          · rw [if_pos hc] at hf
            refine lv_iconst (v := 1) hx hb d_M_rule_44 (by decide) ?_
            refine lv_goto (tgt := 49) hx hb d_M_rule_45 (by decide) ?_
            obtain ⟨o13, hco13, hf⟩ := fg_ob_some hf
            refine fgM_i (va_runV (As := [.int 1, .int 1]) (rest := []) ⟨hx, hb, hml, hown, hts⟩ (c_M_refuse l dC dI cI cZ ad _ t n B E C O F L V 1 1 o13 hco13) (cwV 2 hts gv_M_47 rfl rfl rfl (by decide +kernel) ⟨Nat.le_of_ble_eq_true rfl, Nat.le_of_ble_eq_true rfl⟩) (mW_pre hK hP hD) rfl rfl hl.1 rfl (lv_room (Nat.le_of_ble_eq_true rfl)) d_M_rule_49 ⟨Nat.le_of_ble_eq_true rfl, Nat.le_of_ble_eq_true rfl⟩) hP hD hS hA (fun H locs hP hD hS => ?_)
            refine lv_if_eq (tgt := 57) hx hb d_M_rule_52 (by decide) (fun hc => ?_) (fun hc => ?_)
            · rw [if_pos hc] at hf
              refine lv_aload_n hx hb d_M_rule_57 rfl (lv_at hl 0 rfl) ?_
              refine va_get (D := (dC, dI)) (ci := 1) (v := .ref (ad 1)) (C := R_M) (T := F_M) (N := 9) hx hb hts i_M hown hK hP 0 rfl rfl 2 (by decide) (hts _ fl_M_7) (fun _ h9 => h9) rfl d_M_rule_58 ?_
              refine lv_aload_n hx hb d_M_rule_61 rfl (lv_at hl 0 rfl) ?_
              refine va_get (D := (dC, dI)) (ci := 1) (v := .int n) (C := R_M) (T := F_M) (N := 9) hx hb hts i_M hown hK hP 0 rfl rfl 1 (by decide) (hts _ fl_M_40) (fun _ h9 => h9) rfl d_M_rule_62 ?_
              refine lv_iload_n hx hb d_M_rule_65 rfl (lv_at hl 1 rfl) ?_
              obtain ⟨hi, hf⟩ := fg_og_some hf
              refine va_iast hx hb hK hP hD hS 1 0 rfl rfl (ix_in hi) d_M_rule_66 (fun H locs hP hD hS => ?_)
              have hP : va_P (dC, dI) classes (mW cI cZ ad o13.2 n (upd B n.toNatClampNeg p0) E C O F L V) H := hP
              have hD : va_D A (mW cI cZ ad o13.2 n (upd B n.toNatClampNeg p0) E C O F L V) := hD
              refine lv_aload_n hx hb d_M_rule_67 rfl (lv_at hl 0 rfl) ?_
              refine va_get (D := (dC, dI)) (ci := 1) (v := .ref (ad 2)) (C := R_M) (T := F_M) (N := 9) hx hb hts i_M hown hK hP 0 rfl rfl 3 (by decide) (hts _ fl_M_13) (fun _ h9 => h9) rfl d_M_rule_68 ?_
              refine lv_aload_n hx hb d_M_rule_71 rfl (lv_at hl 0 rfl) ?_
              refine va_get (D := (dC, dI)) (ci := 1) (v := .int n) (C := R_M) (T := F_M) (N := 9) hx hb hts i_M hown hK hP 0 rfl rfl 1 (by decide) (hts _ fl_M_40) (fun _ h9 => h9) rfl d_M_rule_72 ?_
              refine lv_iload_n hx hb d_M_rule_75 rfl (lv_at hl 2 rfl) ?_
              obtain ⟨hi, hf⟩ := fg_og_some hf
              refine va_iast hx hb hK hP hD hS 2 0 rfl rfl (ix_in hi) d_M_rule_76 (fun H locs hP hD hS => ?_)
              have hP : va_P (dC, dI) classes (mW cI cZ ad o13.2 n (upd B n.toNatClampNeg p0) (upd E n.toNatClampNeg p1) C O F L V) H := hP
              have hD : va_D A (mW cI cZ ad o13.2 n (upd B n.toNatClampNeg p0) (upd E n.toNatClampNeg p1) C O F L V) := hD
              refine lv_aload_n hx hb d_M_rule_77 rfl (lv_at hl 0 rfl) ?_
              refine va_get (D := (dC, dI)) (ci := 1) (v := .ref (ad 3)) (C := R_M) (T := F_M) (N := 9) hx hb hts i_M hown hK hP 0 rfl rfl 4 (by decide) (hts _ fl_M_16) (fun _ h9 => h9) rfl d_M_rule_78 ?_
              refine lv_aload_n hx hb d_M_rule_81 rfl (lv_at hl 0 rfl) ?_
              refine va_get (D := (dC, dI)) (ci := 1) (v := .int n) (C := R_M) (T := F_M) (N := 9) hx hb hts i_M hown hK hP 0 rfl rfl 1 (by decide) (hts _ fl_M_40) (fun _ h9 => h9) rfl d_M_rule_82 ?_
              refine lv_iload_n hx hb d_M_rule_85 rfl (lv_at hl 3 rfl) ?_
              obtain ⟨hi, hf⟩ := fg_og_some hf
              refine va_iast hx hb hK hP hD hS 3 0 rfl rfl (ix_in hi) d_M_rule_86 (fun H locs hP hD hS => ?_)
              have hP : va_P (dC, dI) classes (mW cI cZ ad o13.2 n (upd B n.toNatClampNeg p0) (upd E n.toNatClampNeg p1) (upd C n.toNatClampNeg p2) O F L V) H := hP
              have hD : va_D A (mW cI cZ ad o13.2 n (upd B n.toNatClampNeg p0) (upd E n.toNatClampNeg p1) (upd C n.toNatClampNeg p2) O F L V) := hD
              refine lv_aload_n hx hb d_M_rule_87 rfl (lv_at hl 0 rfl) ?_
              refine va_get (D := (dC, dI)) (ci := 1) (v := .ref (ad 4)) (C := R_M) (T := F_M) (N := 9) hx hb hts i_M hown hK hP 0 rfl rfl 5 (by decide) (hts _ fl_M_19) (fun _ h9 => h9) rfl d_M_rule_88 ?_
              refine lv_aload_n hx hb d_M_rule_91 rfl (lv_at hl 0 rfl) ?_
              refine va_get (D := (dC, dI)) (ci := 1) (v := .int n) (C := R_M) (T := F_M) (N := 9) hx hb hts i_M hown hK hP 0 rfl rfl 1 (by decide) (hts _ fl_M_40) (fun _ h9 => h9) rfl d_M_rule_92 ?_
              refine lv_iconst (v := 1) hx hb d_M_rule_95 (by decide) ?_
              obtain ⟨hi, hf⟩ := fg_og_some hf
              refine va_zast hx hb hK hP hD hS 4 1 rfl rfl (ix_in hi) d_M_rule_96 (fun H locs hP hD hS => ?_)
              have hP : va_P (dC, dI) classes (mW cI cZ ad o13.2 n (upd B n.toNatClampNeg p0) (upd E n.toNatClampNeg p1) (upd C n.toNatClampNeg p2) (upd O n.toNatClampNeg (vp_nar .boolean 1)) F L V) H := hP
              have hD : va_D A (mW cI cZ ad o13.2 n (upd B n.toNatClampNeg p0) (upd E n.toNatClampNeg p1) (upd C n.toNatClampNeg p2) (upd O n.toNatClampNeg (vp_nar .boolean 1)) F L V) := hD
              refine lv_aload_n hx hb d_M_rule_97 rfl (lv_at hl 0 rfl) ?_
              refine lv_dup hx hb d_M_rule_98 rfl ?_
              refine va_get (D := (dC, dI)) (ci := 1) (v := .int n) (C := R_M) (T := F_M) (N := 9) hx hb hts i_M hown hK hP 0 rfl rfl 1 (by decide) (hts _ fl_M_40) (fun _ h9 => h9) rfl d_M_rule_99 ?_
              refine lv_iconst (v := 1) hx hb d_M_rule_102 (by decide) ?_
              refine lv_iadd hx hb d_M_rule_103 ?_
              refine va_put (D := (dC, dI)) (ci := 1) (v := .int (n + 1)) (ty := .int) (C := R_M) (T := F_M) (N := 9) hx hb hts i_M t_M t_M_ok n_M hown hK hP hD hS 0 rfl rfl 1 (by decide) (hts _ fl_M_40) (fun _ h9 => h9) rfl (by decide +kernel) rfl rfl (Nat.le_of_ble_eq_true rfl) d_M_rule_104 (fun H locs hP hD hS => ?_)
              have hP : va_P (dC, dI) classes (mW cI cZ ad o13.2 (n + 1) (upd B n.toNatClampNeg p0) (upd E n.toNatClampNeg p1) (upd C n.toNatClampNeg p2) (upd O n.toNatClampNeg (vp_nar .boolean 1)) F L V) H := hP
              have hD : va_D A (mW cI cZ ad o13.2 (n + 1) (upd B n.toNatClampNeg p0) (upd E n.toNatClampNeg p1) (upd C n.toNatClampNeg p2) (upd O n.toNatClampNeg (vp_nar .boolean 1)) F L V) := hD
              refine lv_aload_n hx hb d_M_rule_107 rfl (lv_at hl 0 rfl) ?_
              refine va_get (D := (dC, dI)) (ci := 1) (v := .int (n + 1)) (C := R_M) (T := F_M) (N := 9) hx hb hts i_M hown hK hP 0 rfl rfl 1 (by decide) (hts _ fl_M_40) (fun _ h9 => h9) rfl d_M_rule_108 ?_
              refine lv_iconst (v := 1) hx hb d_M_rule_111 (by decide) ?_
              refine lv_isub hx hb d_M_rule_112 ?_
              cases hf
              exact hE _ _ _ _ hP hD hS d_M_rule_113
            · rw [if_neg hc] at hf
              refine lv_iconst (v := 0) hx hb d_M_rule_55 (by decide) ?_
              cases hf
              exact hE _ _ _ _ hP hD hS d_M_rule_56
