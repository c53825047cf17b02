set_option maxHeartbeats 4000000 in
set_option maxRecDepth 100000 in
theorem c_G_rule (l : Launch) (dC : Nat → ClassId) (dI : Nat → Nat → Nat) (cI cZ : ClassId) (ad : Nat → Nat) (sz : Nat) (B : fg_A) (E : fg_A) (C : fg_A) (O : fg_A) (n : Int32) (F : fg_A) (L : fg_A) (V : fg_A) (p0 : Int32) (p1 : Int32) (p2 : Int32) (o : Int32 × fg_A × fg_A × fg_A × fg_A × Int32) (hf : f_G_rule B E C O n p0 p1 p2 = some o) : Met l y_G_rule w_G_rule rm_G_rule (gW_Pc dC dI cI cZ ad sz B E C O n F L V [.ref (ad 0), .int p0, .int p1, .int p2]) (gW_Qi dC dI cI cZ ad (va_A (gW cI cZ ad B E C O n F L V) sz) o.2.1 o.2.2.1 o.2.2.2.1 o.2.2.2.2.1 o.2.2.2.2.2 F L V o.1) 0 0 (va_A (gW cI cZ ad B E C O n F L V) sz) := by
  refine Met.ofW (cc := b_G_rule) (maxL := 5) (ret := (some .int)) (by decide) rfl ?_
  intro p e s m args below meth c s₁ Bd hml hv
  obtain ⟨rfl, hsz, hP, hK, hD0⟩ := hv
  have hx := Bd.exec
  have hb := Bd.bytes
  have hr := Bd.returns
  have hts := fun w h => atoms_spec (ws := w_G_rule) Bd.pre w (List.mem_cons_of_mem _ h)
  have hown : s.vm.findClass R_G = some m.cls := findClass_of_methodNamed Bd.named
  have hlocks := Bd.notSynchronized
  subst hsz
  have hD := hD0.self (sz := s.heap.size)
  generalize hAe : va_A (gW cI cZ ad B E C O n F L V) s.heap.size = A at hD ⊢
  have hA : ∀ q : Nat, s.heap.size ≤ q → A q := fun q h => by rw [← hAe]; exact Or.inr h
  have hS : va_S A s.heap s.heap [] := va_S.rf
  have hl := lv_entry ([.ref (ad 0), .int p0, .int p1, .int p2]) (n := 5) (Nat.le_of_ble_eq_true rfl)
  rw [lg_entry_eq]
  generalize (lg_sl ([.ref (ad 0), .int p0, .int p1, .int p2]) ++ List.replicate (5 - (lg_sl ([.ref (ad 0), .int p0, .int p1, .int p2])).length) Slot.unset).toArray = ls at hl ⊢
  have hl : lv_has ls 5 [(0, .ref (ad 0)), (1, .int p0), (2, .int p1), (3, .int p2)] := hl
  have hE : ∀ (pc : Nat) (H : Heap) (locs : List Loc) (ls : Array Slot), va_P (dC, dI) classes (gW cI cZ ad o.2.1 o.2.2.1 o.2.2.2.1 o.2.2.2.2.1 o.2.2.2.2.2 F L V) H → va_D A (gW cI cZ ad o.2.1 o.2.2.1 o.2.2.2.1 o.2.2.2.2.1 o.2.2.2.2.2 F L V) → va_S A s.heap H locs → decode b_G_rule pc = .ok (.ireturn, 1) → W p l e (headSpec w_G_rule rm_G_rule).room s m ([.ref (ad 0), .int p0, .int p1, .int p2] : List Value).toArray below meth c H locs 0 0 (MQ below (gW_Qi dC dI cI cZ ad A o.2.1 o.2.2.1 o.2.2.2.1 o.2.2.2.2.1 o.2.2.2.2.2 F L V o.1) ([.ref (ad 0), .int p0, .int p1, .int p2] : List Value).toArray s 0 0 A) (F0 m pc ls [.int o.1]) := fun pc H locs ls hP hD hS hd => W.iret (v := o.1) hx hb hr (fun t ht hW => ⟨⟨o.1, (), rfl, rfl, by rw [ht]; exact hP, va_K.moved hW.alike hK, hD⟩, hS.F ht⟩) hS.2.2 hd
  unfold f_G_rule at hf
  refine lv_iload_n hx hb d_G_rule_0 rfl (lv_at hl 1 rfl) ?_
  refine lv_iload_n hx hb d_G_rule_1 rfl (lv_at hl 2 rfl) ?_
  obtain ⟨o1, hco1, hf⟩ := fg_ob_some hf
  refine fg_v0 (W.runS (As := [.int p0, .int p1]) (rest := []) ⟨hx, hb, hml, hown, hts⟩ (c_G_needUnlikeNodes l p0 p1 hco1) (cwS 2 hts gs_G_36 rfl rfl rfl (by decide +kernel) ⟨Nat.le_of_ble_eq_true rfl, Nat.le_of_ble_eq_true rfl⟩) preEq rfl rfl hl.1 rfl (lv_room (Nat.le_of_ble_eq_true rfl)) d_G_rule_2 ⟨Nat.le_of_ble_eq_true rfl, Nat.le_of_ble_eq_true rfl⟩) ?_
  refine lv_iload_n hx hb d_G_rule_5 rfl (lv_at hl 3 rfl) ?_
  refine lv_iconst (v := 1) hx hb d_G_rule_6 (by decide) ?_
  refine lv_icmp_lt (tgt := 16) hx hb d_G_rule_7 (by decide) (fun hc => ?_) (fun hc => ?_)
  · rw [if_pos hc] at hf
    cases hf
  · rw [if_neg hc] at hf
    refine lv_iload_n hx hb d_G_rule_10 rfl (lv_at hl 3 rfl) ?_
    refine lv_bipush (v := 9) hx hb d_G_rule_11 (by decide) ?_
    refine lv_icmp_le (tgt := 26) hx hb d_G_rule_13 (by decide) (fun hc => ?_) (fun hc => ?_)
    · rw [if_pos hc] at hf
      refine lv_aload_n hx hb d_G_rule_26 rfl (lv_at hl 0 rfl) ?_
      refine va_get (D := (dC, dI)) (ci := 0) (v := .int n) (C := R_G) (T := F_G) (N := 8) hx hb hts i_G hown hK hP 0 rfl rfl 4 (by decide) (hts _ fl_G_23) (fun _ h9 => h9) rfl d_G_rule_27 ?_
      refine lv_bipush (v := 90) hx hb d_G_rule_30 (by decide) ?_
      refine lv_icmp_lt (tgt := 45) hx hb d_G_rule_32 (by decide) (fun hc => ?_) (fun hc => ?_)
      · rw [if_pos hc] at hf
        refine lv_aload_n hx hb d_G_rule_45 rfl (lv_at hl 0 rfl) ?_
        refine va_get (D := (dC, dI)) (ci := 0) (v := .int n) (C := R_G) (T := F_G) (N := 8) hx hb hts i_G hown hK hP 0 rfl rfl 4 (by decide) (hts _ fl_G_23) (fun _ h9 => h9) rfl d_G_rule_46 ?_
        refine lv_istore (lv' := [(4, .int n), (0, .ref (ad 0)), (1, .int p0), (2, .int p1), (3, .int p2)]) hx hb d_G_rule_49 hl (by decide) rfl (fun ls hl => ?_)
        refine lv_aload_n hx hb d_G_rule_51 rfl (lv_at hl 1 rfl) ?_
        refine va_get (D := (dC, dI)) (ci := 0) (v := .ref (ad 1)) (C := R_G) (T := F_G) (N := 8) hx hb hts i_G hown hK hP 0 rfl rfl 0 (by decide) (hts _ fl_G_9) (fun _ h9 => h9) rfl d_G_rule_52 ?_
        refine lv_iload hx hb d_G_rule_55 (lv_at hl 0 rfl) ?_
        refine lv_iload_n hx hb d_G_rule_57 rfl (lv_at hl 2 rfl) ?_
        obtain ⟨hi, hf⟩ := fg_og_some hf
        refine va_iast hx hb hK hP hD hS 1 0 rfl rfl (ix_in hi) d_G_rule_58 (fun H locs hP hD hS => ?_)
        have hP : va_P (dC, dI) classes (gW cI cZ ad (upd B n.toNatClampNeg p0) E C O n F L V) H := hP
        have hD : va_D A (gW cI cZ ad (upd B n.toNatClampNeg p0) E C O n F L V) := hD
        refine lv_aload_n hx hb d_G_rule_59 rfl (lv_at hl 1 rfl) ?_
        refine va_get (D := (dC, dI)) (ci := 0) (v := .ref (ad 2)) (C := R_G) (T := F_G) (N := 8) hx hb hts i_G hown hK hP 0 rfl rfl 1 (by decide) (hts _ fl_G_13) (fun _ h9 => h9) rfl d_G_rule_60 ?_
        refine lv_iload hx hb d_G_rule_63 (lv_at hl 0 rfl) ?_
        refine lv_iload_n hx hb d_G_rule_65 rfl (lv_at hl 3 rfl) ?_
        obtain ⟨hi, hf⟩ := fg_og_some hf
        refine va_iast hx hb hK hP hD hS 2 0 rfl rfl (ix_in hi) d_G_rule_66 (fun H locs hP hD hS => ?_)
        have hP : va_P (dC, dI) classes (gW cI cZ ad (upd B n.toNatClampNeg p0) (upd E n.toNatClampNeg p1) C O n F L V) H := hP
        have hD : va_D A (gW cI cZ ad (upd B n.toNatClampNeg p0) (upd E n.toNatClampNeg p1) C O n F L V) := hD
        refine lv_aload_n hx hb d_G_rule_67 rfl (lv_at hl 1 rfl) ?_
        refine va_get (D := (dC, dI)) (ci := 0) (v := .ref (ad 3)) (C := R_G) (T := F_G) (N := 8) hx hb hts i_G hown hK hP 0 rfl rfl 2 (by decide) (hts _ fl_G_16) (fun _ h9 => h9) rfl d_G_rule_68 ?_
        refine lv_iload hx hb d_G_rule_71 (lv_at hl 0 rfl) ?_
        refine lv_iload_n hx hb d_G_rule_73 rfl (lv_at hl 4 rfl) ?_
        obtain ⟨hi, hf⟩ := fg_og_some hf
        refine va_iast hx hb hK hP hD hS 3 0 rfl rfl (ix_in hi) d_G_rule_74 (fun H locs hP hD hS => ?_)
        have hP : va_P (dC, dI) classes (gW cI cZ ad (upd B n.toNatClampNeg p0) (upd E n.toNatClampNeg p1) (upd C n.toNatClampNeg p2) O n F L V) H := hP
        have hD : va_D A (gW cI cZ ad (upd B n.toNatClampNeg p0) (upd E n.toNatClampNeg p1) (upd C n.toNatClampNeg p2) O n F L V) := hD
        refine lv_aload_n hx hb d_G_rule_75 rfl (lv_at hl 1 rfl) ?_
        refine va_get (D := (dC, dI)) (ci := 0) (v := .ref (ad 4)) (C := R_G) (T := F_G) (N := 8) hx hb hts i_G hown hK hP 0 rfl rfl 3 (by decide) (hts _ fl_G_19) (fun _ h9 => h9) rfl d_G_rule_76 ?_
        refine lv_iload hx hb d_G_rule_79 (lv_at hl 0 rfl) ?_
        refine lv_iconst (v := 1) hx hb d_G_rule_81 (by decide) ?_
        obtain ⟨hi, hf⟩ := fg_og_some hf
        refine va_zast hx hb hK hP hD hS 4 1 rfl rfl (ix_in hi) d_G_rule_82 (fun H locs hP hD hS => ?_)
        have hP : va_P (dC, dI) classes (gW cI cZ ad (upd B n.toNatClampNeg p0) (upd E n.toNatClampNeg p1) (upd C n.toNatClampNeg p2) (upd O n.toNatClampNeg (vp_nar .boolean 1)) n F L V) H := hP
        have hD : va_D A (gW cI cZ ad (upd B n.toNatClampNeg p0) (upd E n.toNatClampNeg p1) (upd C n.toNatClampNeg p2) (upd O n.toNatClampNeg (vp_nar .boolean 1)) n F L V) := hD
        refine lv_aload_n hx hb d_G_rule_83 rfl (lv_at hl 1 rfl) ?_
        refine lv_iload hx hb d_G_rule_84 (lv_at hl 0 rfl) ?_
        refine lv_iconst (v := 1) hx hb d_G_rule_86 (by decide) ?_
        refine lv_iadd hx hb d_G_rule_87 ?_
        refine va_put (D := (dC, dI)) (ci := 0) (v := .int (n + 1)) (ty := .int) (C := R_G) (T := F_G) (N := 8) hx hb hts i_G t_G t_G_ok n_G hown hK hP hD hS 0 rfl rfl 4 (by decide) (hts _ fl_G_23) (fun _ h9 => h9) rfl (by decide +kernel) rfl rfl (Nat.le_of_ble_eq_true rfl) d_G_rule_88 (fun H locs hP hD hS => ?_)
        have hP : va_P (dC, dI) classes (gW cI cZ ad (upd B n.toNatClampNeg p0) (upd E n.toNatClampNeg p1) (upd C n.toNatClampNeg p2) (upd O n.toNatClampNeg (vp_nar .boolean 1)) (n + 1) F L V) H := hP
        have hD : va_D A (gW cI cZ ad (upd B n.toNatClampNeg p0) (upd E n.toNatClampNeg p1) (upd C n.toNatClampNeg p2) (upd O n.toNatClampNeg (vp_nar .boolean 1)) (n + 1) F L V) := hD
        refine lv_iload hx hb d_G_rule_91 (lv_at hl 0 rfl) ?_
        cases hf
        exact hE _ _ _ _ hP hD hS d_G_rule_93
      · rw [if_neg hc] at hf
        cases hf
    · rw [if_neg hc] at hf
      cases hf
set_option maxHeartbeats 4000000 in
set_option maxRecDepth 100000 in
theorem w_G_passed_36 {p : Program} {l : Launch} {e : Env} {s : State} {m : MethodId} {args : Array Value} {below : List Frame} {meth : Method} {c : Code} {Q : State → Prop} {A : Nat → Prop} {dC : Nat → ClassId} {dI : Nat → Nat → Nat} {cI cZ : ClassId} {ad : Nat → Nat} (hx : p.tables.exec = Jvm.exec) (hb : c.code = b_G_passed) (hml : c.maxLocals = 7) (hown : s.vm.findClass R_G = some m.cls) (hts : ∀ w ∈ gw, w.before args s = true) (hK : va_K (dC, dI) classes (gT cI cZ) s) (hA : ∀ q : Nat, s.heap.size ≤ q → A q) (x1 : Int32) (x2 : Int32) (x3 : Int32) (B : fg_A) (E : fg_A) (C : fg_A) (O : fg_A) (n : Int32) (F : fg_A) (L : fg_A) (V : fg_A) :
    ∀ (k : Nat) (x4 : Int32) (x5 : Int32) (o : Int32), f_G_passed_36 B E O n x1 x2 x3 k x4 x5 = some o → ∀ (H : Heap) (locs : List Loc) (ls : Array Slot), va_P (dC, dI) classes (gW cI cZ ad B E C O n F L V) H → va_D A (gW cI cZ ad B E C O n F L V) → va_S A s.heap H locs → lv_has ls 7 [(0, .ref (ad 0)), (1, .int x1), (2, .int x2), (3, .int x3), (4, .int x4), (5, .int x5)] →
    (∀ (H : Heap) (locs : List Loc) (ls : Array Slot), va_P (dC, dI) classes (gW cI cZ ad B E C O n F L V) H → va_D A (gW cI cZ ad B E C O n F L V) → va_S A s.heap H locs → lv_has ls 7 [(4, .int o)] → W p l e (headSpec w_G_passed rm_G_passed).room s m args below meth c H locs 0 0 Q (F0 m 117 ls [])) → W p l e (headSpec w_G_passed rm_G_passed).room s m args below meth c H locs 0 0 Q (F0 m 36 ls []) := by
  intro k
  induction k with
  | zero =>
    intro x4 x5 o hf
    exact absurd (show none = some o from hf) (by simp)
  | succ k ih =>
    intro x4 x5 o hf H locs ls hP hD hS hl hk
    rw [f_G_passed_36] at hf
    refine lv_iload hx hb d_G_passed_36 (lv_at hl 5 rfl) ?_
    refine lv_bipush (v := 28) hx hb d_G_passed_38 (by decide) ?_
    refine lv_icmp_ge (tgt := 117) hx hb d_G_passed_40 (by decide) (fun hc => ?_) (fun hc => ?_)
    · rw [if_pos hc] at hf
      cases hf
      exact hk _ _ _ hP hD hS (lv_sub hl [4] rfl)
    · rw [if_neg hc] at hf
      refine lv_iload hx hb d_G_passed_43 (lv_at hl 5 rfl) ?_
      refine lv_iload_n hx hb d_G_passed_45 rfl (lv_at hl 1 rfl) ?_
      refine lv_icmp_eq (tgt := 68) hx hb d_G_passed_46 (by decide) (fun hc => ?_) (fun hc => ?_)
      · rw [if_pos hc] at hf
        refine lv_iconst (v := 0) hx hb d_G_passed_68 (by decide) ?_
        refine lv_istore (lv' := [(6, .int 0), (0, .ref (ad 0)), (1, .int x1), (2, .int x2), (3, .int x3), (4, .int x4), (5, .int x5)]) hx hb d_G_passed_69 hl (by decide) rfl (fun ls hl => ?_)
        refine lv_iload hx hb d_G_passed_71 (lv_at hl 0 rfl) ?_
        refine lv_if_eq (tgt := 111) hx hb d_G_passed_73 (by decide) (fun hc => ?_) (fun hc => ?_)
        · refine lv_iinc (v := x5 + 1) (lv' := [(5, .int (x5 + 1)), (6, .int 0), (0, .ref (ad 0)), (1, .int x1), (2, .int x2), (3, .int x3), (4, .int x4)]) hx hb d_G_passed_111 hl (k := 6) rfl rfl (by decide) rfl (fun ls hl => ?_)
          refine lv_goto (tgt := 36) hx hb d_G_passed_114 (by decide) ?_
          exact ih x4 (x5 + 1) _ hf _ _ _ hP hD hS (lv_sub hl [2, 3, 4, 5, 6, 0] rfl) hk
        · exact absurd hc (by decide)
      · rw [if_neg hc] at hf
        refine lv_iload hx hb d_G_passed_49 (lv_at hl 5 rfl) ?_
        refine lv_iload_n hx hb d_G_passed_51 rfl (lv_at hl 2 rfl) ?_
        refine lv_icmp_eq (tgt := 68) hx hb d_G_passed_52 (by decide) (fun hc => ?_) (fun hc => ?_)
        · rw [if_pos hc] at hf
          refine lv_iconst (v := 0) hx hb d_G_passed_68 (by decide) ?_
          refine lv_istore (lv' := [(6, .int 0), (0, .ref (ad 0)), (1, .int x1), (2, .int x2), (3, .int x3), (4, .int x4), (5, .int x5)]) hx hb d_G_passed_69 hl (by decide) rfl (fun ls hl => ?_)
          refine lv_iload hx hb d_G_passed_71 (lv_at hl 0 rfl) ?_
          refine lv_if_eq (tgt := 111) hx hb d_G_passed_73 (by decide) (fun hc => ?_) (fun hc => ?_)
          · refine lv_iinc (v := x5 + 1) (lv' := [(5, .int (x5 + 1)), (6, .int 0), (0, .ref (ad 0)), (1, .int x1), (2, .int x2), (3, .int x3), (4, .int x4)]) hx hb d_G_passed_111 hl (k := 6) rfl rfl (by decide) rfl (fun ls hl => ?_)
            refine lv_goto (tgt := 36) hx hb d_G_passed_114 (by decide) ?_
            exact ih x4 (x5 + 1) _ hf _ _ _ hP hD hS (lv_sub hl [2, 3, 4, 5, 6, 0] rfl) hk
          · exact absurd hc (by decide)
        · rw [if_neg hc] at hf
          refine lv_iload_n hx hb d_G_passed_55 rfl (lv_at hl 3 rfl) ?_
          refine lv_iload hx hb d_G_passed_56 (lv_at hl 5 rfl) ?_
          obtain ⟨o1, hco1, hf⟩ := fg_ob_some hf
          refine fg_r0 (W.runS (As := [.int x3, .int x5]) (rest := []) ⟨hx, hb, hml, hown, hts⟩ (c_G_has l x3 x5 o1 hco1) (cwS 2 hts gs_G_74 rfl rfl rfl (by decide +kernel) ⟨Nat.le_of_ble_eq_true rfl, Nat.le_of_ble_eq_true rfl⟩) preEq rfl rfl hl.1 rfl (lv_room (Nat.le_of_ble_eq_true rfl)) d_G_passed_58 ⟨Nat.le_of_ble_eq_true rfl, Nat.le_of_ble_eq_true rfl⟩) ?_
          refine lv_if_eq (tgt := 68) hx hb d_G_passed_61 (by decide) (fun hc => ?_) (fun hc => ?_)
          · rw [if_pos hc] at hf
            refine lv_iconst (v := 0) hx hb d_G_passed_68 (by decide) ?_
            refine lv_istore (lv' := [(6, .int 0), (0, .ref (ad 0)), (1, .int x1), (2, .int x2), (3, .int x3), (4, .int x4), (5, .int x5)]) hx hb d_G_passed_69 hl (by decide) rfl (fun ls hl => ?_)
            refine lv_iload hx hb d_G_passed_71 (lv_at hl 0 rfl) ?_
            refine lv_if_eq (tgt := 111) hx hb d_G_passed_73 (by decide) (fun hc => ?_) (fun hc => ?_)
            · refine lv_iinc (v := x5 + 1) (lv' := [(5, .int (x5 + 1)), (6, .int 0), (0, .ref (ad 0)), (1, .int x1), (2, .int x2), (3, .int x3), (4, .int x4)]) hx hb d_G_passed_111 hl (k := 6) rfl rfl (by decide) rfl (fun ls hl => ?_)
              refine lv_goto (tgt := 36) hx hb d_G_passed_114 (by decide) ?_
              exact ih x4 (x5 + 1) _ hf _ _ _ hP hD hS (lv_sub hl [2, 3, 4, 5, 6, 0] rfl) hk
            · exact absurd hc (by decide)
          · rw [if_neg hc] at hf
            refine lv_iconst (v := 1) hx hb d_G_passed_64 (by decide) ?_
            refine lv_goto (tgt := 69) hx hb d_G_passed_65 (by decide) ?_
            refine lv_istore (lv' := [(6, .int 1), (0, .ref (ad 0)), (1, .int x1), (2, .int x2), (3, .int x3), (4, .int x4), (5, .int x5)]) hx hb d_G_passed_69 hl (by decide) rfl (fun ls hl => ?_)
            refine lv_iload hx hb d_G_passed_71 (lv_at hl 0 rfl) ?_
            refine lv_if_eq (tgt := 111) hx hb d_G_passed_73 (by decide) (fun hc => ?_) (fun hc => ?_)
            · exact absurd hc (by decide)
            · refine lv_aload_n hx hb d_G_passed_76 rfl (lv_at hl 1 rfl) ?_
              refine lv_aload_n hx hb d_G_passed_77 rfl (lv_at hl 1 rfl) ?_
              refine va_get (D := (dC, dI)) (ci := 0) (v := .ref (ad 1)) (C := R_G) (T := F_G) (N := 8) hx hb hts i_G hown hK hP 0 rfl rfl 0 (by decide) (hts _ fl_G_9) (fun _ h9 => h9) rfl d_G_passed_78 ?_
              refine lv_aload_n hx hb d_G_passed_81 rfl (lv_at hl 1 rfl) ?_
              refine va_get (D := (dC, dI)) (ci := 0) (v := .ref (ad 2)) (C := R_G) (T := F_G) (N := 8) hx hb hts i_G hown hK hP 0 rfl rfl 1 (by decide) (hts _ fl_G_13) (fun _ h9 => h9) rfl d_G_passed_82 ?_
              refine lv_iload_n hx hb d_G_passed_85 rfl (lv_at hl 2 rfl) ?_
              refine lv_iload hx hb d_G_passed_86 (lv_at hl 6 rfl) ?_
              obtain ⟨o2, hco2, hf⟩ := fg_ob_some hf
              refine fg_r0 (W.runS (As := [.int x5]) (rest := [.int x1, .ref (ad 2), .ref (ad 1), .ref (ad 0)]) ⟨hx, hb, hml, hown, hts⟩ (c_G_bit l x5 o2 hco2) (cwS 1 hts gs_G_78 rfl rfl rfl (by decide +kernel) ⟨Nat.le_of_ble_eq_true rfl, Nat.le_of_ble_eq_true rfl⟩) preEq rfl rfl hl.1 rfl (lv_room (Nat.le_of_ble_eq_true rfl)) d_G_passed_88 ⟨Nat.le_of_ble_eq_true rfl, Nat.le_of_ble_eq_true rfl⟩) ?_
              obtain ⟨o3, hco3, hf⟩ := fg_ob_some hf
              refine fgG_i (va_runV (As := [.ref (ad 1), .ref (ad 2), .int x1, .int o2]) (rest := []) ⟨hx, hb, hml, hown, hts⟩ (c_G_reach_fwd l dC dI cI cZ ad _ B E C O n F L V x1 o2 o3 hco3) (cwV 4 hts gv_G_70 rfl rfl rfl (by decide +kernel) ⟨Nat.le_of_ble_eq_true rfl, Nat.le_of_ble_eq_true rfl⟩) (gW_pre hK hP hD) rfl rfl hl.1 rfl (lv_room (Nat.le_of_ble_eq_true rfl)) d_G_passed_91 ⟨Nat.le_of_ble_eq_true rfl, Nat.le_of_ble_eq_true rfl⟩) hP hD hS hA (fun H locs hP hD hS => ?_)
              refine lv_iload_n hx hb d_G_passed_94 rfl (lv_at hl 3 rfl) ?_
              obtain ⟨o4, hco4, hf⟩ := fg_ob_some hf
              refine fg_r0 (W.runS (As := [.int o3, .int x2]) (rest := []) ⟨hx, hb, hml, hown, hts⟩ (c_G_has l o3 x2 o4 hco4) (cwS 2 hts gs_G_74 rfl rfl rfl (by decide +kernel) ⟨Nat.le_of_ble_eq_true rfl, Nat.le_of_ble_eq_true rfl⟩) preEq rfl rfl hl.1 rfl (lv_room (Nat.le_of_ble_eq_true rfl)) d_G_passed_95 ⟨Nat.le_of_ble_eq_true rfl, Nat.le_of_ble_eq_true rfl⟩) ?_
              refine lv_if_ne (tgt := 111) hx hb d_G_passed_98 (by decide) (fun hc => ?_) (fun hc => ?_)
              · rw [if_neg hc] at hf
                refine lv_iinc (v := x5 + 1) (lv' := [(5, .int (x5 + 1)), (6, .int 1), (0, .ref (ad 0)), (1, .int x1), (2, .int x2), (3, .int x3), (4, .int x4)]) hx hb d_G_passed_111 hl (k := 6) rfl rfl (by decide) rfl (fun ls hl => ?_)
                refine lv_goto (tgt := 36) hx hb d_G_passed_114 (by decide) ?_
                exact ih x4 (x5 + 1) _ hf _ _ _ hP hD hS (lv_sub hl [2, 3, 4, 5, 6, 0] rfl) hk
              · rw [if_pos hc] at hf
                refine lv_iload hx hb d_G_passed_101 (lv_at hl 5 rfl) ?_
                refine lv_iload hx hb d_G_passed_103 (lv_at hl 6 rfl) ?_
                obtain ⟨o5, hco5, hf⟩ := fg_ob_some hf
                refine fg_r0 (W.runS (As := [.int x5]) (rest := [.int x4]) ⟨hx, hb, hml, hown, hts⟩ (c_G_bit l x5 o5 hco5) (cwS 1 hts gs_G_78 rfl rfl rfl (by decide +kernel) ⟨Nat.le_of_ble_eq_true rfl, Nat.le_of_ble_eq_true rfl⟩) preEq rfl rfl hl.1 rfl (lv_room (Nat.le_of_ble_eq_true rfl)) d_G_passed_105 ⟨Nat.le_of_ble_eq_true rfl, Nat.le_of_ble_eq_true rfl⟩) ?_
                refine lv_ior hx hb d_G_passed_108 ?_
                refine lv_istore (lv' := [(4, .int (x4 ||| o5)), (6, .int 1), (0, .ref (ad 0)), (1, .int x1), (2, .int x2), (3, .int x3), (5, .int x5)]) hx hb d_G_passed_109 hl (by decide) rfl (fun ls hl => ?_)
                refine lv_iinc (v := x5 + 1) (lv' := [(5, .int (x5 + 1)), (4, .int (x4 ||| o5)), (6, .int 1), (0, .ref (ad 0)), (1, .int x1), (2, .int x2), (3, .int x3)]) hx hb d_G_passed_111 hl (k := 6) rfl rfl (by decide) rfl (fun ls hl => ?_)
                refine lv_goto (tgt := 36) hx hb d_G_passed_114 (by decide) ?_
                exact ih (x4 ||| o5) (x5 + 1) _ hf _ _ _ hP hD hS (lv_sub hl [3, 4, 5, 6, 1, 0] rfl) hk
set_option maxHeartbeats 4000000 in
set_option maxRecDepth 100000 in
theorem c_G_passed (l : Launch) (dC : Nat → ClassId) (dI : Nat → Nat → Nat) (cI cZ : ClassId) (ad : Nat → Nat) (sz : Nat) (B : fg_A) (E : fg_A) (C : fg_A) (O : fg_A) (n : Int32) (F : fg_A) (L : fg_A) (V : fg_A) (p0 : Int32) (p1 : Int32) (o : Int32) (hf : f_G_passed B E O n p0 p1 = some o) : Met l y_G_passed w_G_passed rm_G_passed (gW_Pc dC dI cI cZ ad sz B E C O n F L V [.ref (ad 0), .int p0, .int p1]) (gW_Qi dC dI cI cZ ad (va_A (gW cI cZ ad B E C O n F L V) sz) B E C O n F L V o) 0 0 (va_A (gW cI cZ ad B E C O n F L V) sz) := by
  refine Met.ofW (cc := b_G_passed) (maxL := 7) (ret := (some .int)) (by decide) rfl ?_
  intro p e s m args below meth c s₁ Bd hml hv
  obtain ⟨rfl, hsz, hP, hK, hD0⟩ := hv
  have hx := Bd.exec
  have hb := Bd.bytes
  have hr := Bd.returns
  have hts := fun w h => atoms_spec (ws := w_G_passed) Bd.pre w (List.mem_cons_of_mem _ h)
  have hown : s.vm.findClass R_G = some m.cls := findClass_of_methodNamed Bd.named
  have hlocks := Bd.notSynchronized
  subst hsz
  have hD := hD0.self (sz := s.heap.size)
  generalize hAe : va_A (gW cI cZ ad B E C O n F L V) s.heap.size = A at hD ⊢
  have hA : ∀ q : Nat, s.heap.size ≤ q → A q := fun q h => by rw [← hAe]; exact Or.inr h
  have hS : va_S A s.heap s.heap [] := va_S.rf
  have hl := lv_entry ([.ref (ad 0), .int p0, .int p1]) (n := 7) (Nat.le_of_ble_eq_true rfl)
  rw [lg_entry_eq]
  generalize (lg_sl ([.ref (ad 0), .int p0, .int p1]) ++ List.replicate (7 - (lg_sl ([.ref (ad 0), .int p0, .int p1])).length) Slot.unset).toArray = ls at hl ⊢
  have hl : lv_has ls 7 [(0, .ref (ad 0)), (1, .int p0), (2, .int p1)] := hl
  have hE : ∀ (pc : Nat) (H : Heap) (locs : List Loc) (ls : Array Slot), va_P (dC, dI) classes (gW cI cZ ad B E C O n F L V) H → va_D A (gW cI cZ ad B E C O n F L V) → va_S A s.heap H locs → decode b_G_passed pc = .ok (.ireturn, 1) → W p l e (headSpec w_G_passed rm_G_passed).room s m ([.ref (ad 0), .int p0, .int p1] : List Value).toArray below meth c H locs 0 0 (MQ below (gW_Qi dC dI cI cZ ad A B E C O n F L V o) ([.ref (ad 0), .int p0, .int p1] : List Value).toArray s 0 0 A) (F0 m pc ls [.int o]) := fun pc H locs ls hP hD hS hd => W.iret (v := o) hx hb hr (fun t ht hW => ⟨⟨o, (), rfl, rfl, by rw [ht]; exact hP, va_K.moved hW.alike hK, hD⟩, hS.F ht⟩) hS.2.2 hd
  unfold f_G_passed at hf
  refine lv_iload_n hx hb d_G_passed_0 rfl (lv_at hl 1 rfl) ?_
  refine lv_iload_n hx hb d_G_passed_1 rfl (lv_at hl 2 rfl) ?_
  obtain ⟨o1, hco1, hf⟩ := fg_ob_some hf
  refine fg_v0 (W.runS (As := [.int p0, .int p1]) (rest := []) ⟨hx, hb, hml, hown, hts⟩ (c_G_needNodes l p0 p1 hco1) (cwS 2 hts gs_G_57 rfl rfl rfl (by decide +kernel) ⟨Nat.le_of_ble_eq_true rfl, Nat.le_of_ble_eq_true rfl⟩) preEq rfl rfl hl.1 rfl (lv_room (Nat.le_of_ble_eq_true rfl)) d_G_passed_2 ⟨Nat.le_of_ble_eq_true rfl, Nat.le_of_ble_eq_true rfl⟩) ?_
  refine lv_aload_n hx hb d_G_passed_5 rfl (lv_at hl 0 rfl) ?_
  refine lv_aload_n hx hb d_G_passed_6 rfl (lv_at hl 0 rfl) ?_
  refine va_get (D := (dC, dI)) (ci := 0) (v := .ref (ad 1)) (C := R_G) (T := F_G) (N := 8) hx hb hts i_G hown hK hP 0 rfl rfl 0 (by decide) (hts _ fl_G_9) (fun _ h9 => h9) rfl d_G_passed_7 ?_
  refine lv_aload_n hx hb d_G_passed_10 rfl (lv_at hl 0 rfl) ?_
  refine va_get (D := (dC, dI)) (ci := 0) (v := .ref (ad 2)) (C := R_G) (T := F_G) (N := 8) hx hb hts i_G hown hK hP 0 rfl rfl 1 (by decide) (hts _ fl_G_13) (fun _ h9 => h9) rfl d_G_passed_11 ?_
  refine lv_iload_n hx hb d_G_passed_14 rfl (lv_at hl 1 rfl) ?_
  refine lv_iconst (v := 0) hx hb d_G_passed_15 (by decide) ?_
  obtain ⟨o2, hco2, hf⟩ := fg_ob_some hf
  refine fgG_i (va_runV (As := [.ref (ad 1), .ref (ad 2), .int p0, .int 0]) (rest := []) ⟨hx, hb, hml, hown, hts⟩ (c_G_reach_fwd l dC dI cI cZ ad _ B E C O n F L V p0 0 o2 hco2) (cwV 4 hts gv_G_70 rfl rfl rfl (by decide +kernel) ⟨Nat.le_of_ble_eq_true rfl, Nat.le_of_ble_eq_true rfl⟩) (gW_pre hK hP hD) rfl rfl hl.1 rfl (lv_room (Nat.le_of_ble_eq_true rfl)) d_G_passed_16 ⟨Nat.le_of_ble_eq_true rfl, Nat.le_of_ble_eq_true rfl⟩) hP hD hS hA (fun H locs hP hD hS => ?_)
  refine lv_istore_n (lv' := [(3, .int o2), (0, .ref (ad 0)), (1, .int p0), (2, .int p1)]) hx hb d_G_passed_19 rfl hl (by decide) rfl (fun ls hl => ?_)
  refine lv_iload_n hx hb d_G_passed_20 rfl (lv_at hl 0 rfl) ?_
  refine lv_iload_n hx hb d_G_passed_21 rfl (lv_at hl 3 rfl) ?_
  obtain ⟨o3, hco3, hf⟩ := fg_ob_some hf
  refine fg_r0 (W.runS (As := [.int o2, .int p1]) (rest := []) ⟨hx, hb, hml, hown, hts⟩ (c_G_has l o2 p1 o3 hco3) (cwS 2 hts gs_G_74 rfl rfl rfl (by decide +kernel) ⟨Nat.le_of_ble_eq_true rfl, Nat.le_of_ble_eq_true rfl⟩) preEq rfl rfl hl.1 rfl (lv_room (Nat.le_of_ble_eq_true rfl)) d_G_passed_22 ⟨Nat.le_of_ble_eq_true rfl, Nat.le_of_ble_eq_true rfl⟩) ?_
  refine lv_if_ne (tgt := 30) hx hb d_G_passed_25 (by decide) (fun hc => ?_) (fun hc => ?_)
  · rw [if_neg hc] at hf
    refine lv_iconst (v := 0) hx hb d_G_passed_30 (by decide) ?_
    refine lv_istore (lv' := [(4, .int 0), (3, .int o2), (0, .ref (ad 0)), (1, .int p0), (2, .int p1)]) hx hb d_G_passed_31 hl (by decide) rfl (fun ls hl => ?_)
    refine lv_iconst (v := 0) hx hb d_G_passed_33 (by decide) ?_
    refine lv_istore (lv' := [(5, .int 0), (4, .int 0), (3, .int o2), (0, .ref (ad 0)), (1, .int p0), (2, .int p1)]) hx hb d_G_passed_34 hl (by decide) rfl (fun ls hl => ?_)
    obtain ⟨o4, hco4, hf⟩ := fg_ob_some hf
    refine w_G_passed_36 hx hb hml hown hts hK hA p0 p1 o2 B E C O n F L V fu 0 0 o4 hco4 _ _ _ hP hD hS (lv_sub hl [3, 4, 5, 2, 1, 0] rfl) (fun H locs ls hP hD hS hl => ?_)
    refine lv_iload hx hb d_G_passed_117 (lv_at hl 0 rfl) ?_
    cases hf
    exact hE _ _ _ _ hP hD hS d_G_passed_119
  · rw [if_pos hc] at hf
    refine lv_iconst (v := 0) hx hb d_G_passed_28 (by decide) ?_
    cases hf
    exact hE _ _ _ _ hP hD hS d_G_passed_29
