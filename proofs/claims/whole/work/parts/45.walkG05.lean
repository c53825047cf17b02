set_option maxHeartbeats 4000000 in
set_option maxRecDepth 100000 in
theorem c_G_leaves (l : Launch) (dC : Nat → ClassId) (dI : Nat → Nat → Nat) (cI cZ : ClassId) (ad : Nat → Nat) (sz : Nat) (B : fg_A) (E : fg_A) (C : fg_A) (O : fg_A) (n : Int32) (F : fg_A) (L : fg_A) (V : fg_A) (p0 : Int32) (p1 : Int32) (o : Int32) (hf : f_G_leaves B E O p0 p1 = some o) : Met l y_G_leaves w_G_leaves rm_G_leaves (gW_Pc dC dI cI cZ ad sz B E C O n F L V [.ref (ad 0), .int p0, .int p1]) (gW_Qi dC dI cI cZ ad (va_A (gW cI cZ ad B E C O n F L V) sz) B E C O n F L V o) 0 0 (va_A (gW cI cZ ad B E C O n F L V) sz) := by
  refine Met.ofW (cc := b_G_leaves) (maxL := 3) (ret := (some .boolean)) (by decide) rfl ?_
  intro p e s m args below meth c s₁ Bd hml hv
  obtain ⟨rfl, hsz, hP, hK, hD0⟩ := hv
  have hx := Bd.exec
  have hb := Bd.bytes
  have hr := Bd.returns
  have hts := fun w h => atoms_spec (ws := w_G_leaves) Bd.pre w (List.mem_cons_of_mem _ h)
  have hown : s.vm.findClass R_G = some m.cls := findClass_of_methodNamed Bd.named
  have hlocks := Bd.notSynchronized
  subst hsz
  have hD := hD0.self (sz := s.heap.size)
  generalize hAe : va_A (gW cI cZ ad B E C O n F L V) s.heap.size = A at hD ⊢
  have hA : ∀ q : Nat, s.heap.size ≤ q → A q := fun q h => by rw [← hAe]; exact Or.inr h
  have hS : va_S A s.heap s.heap [] := va_S.rf
  have hl := lv_entry ([.ref (ad 0), .int p0, .int p1]) (n := 3) (Nat.le_of_ble_eq_true rfl)
  rw [lg_entry_eq]
  generalize (lg_sl ([.ref (ad 0), .int p0, .int p1]) ++ List.replicate (3 - (lg_sl ([.ref (ad 0), .int p0, .int p1])).length) Slot.unset).toArray = ls at hl ⊢
  have hl : lv_has ls 3 [(0, .ref (ad 0)), (1, .int p0), (2, .int p1)] := hl
  have hE : ∀ (pc : Nat) (H : Heap) (locs : List Loc) (ls : Array Slot), va_P (dC, dI) classes (gW cI cZ ad B E C O n F L V) H → va_D A (gW cI cZ ad B E C O n F L V) → va_S A s.heap H locs → narrow .boolean (.int o) = .int o → decode b_G_leaves pc = .ok (.ireturn, 1) → W p l e (headSpec w_G_leaves rm_G_leaves).room s m ([.ref (ad 0), .int p0, .int p1] : List Value).toArray below meth c H locs 0 0 (MQ below (gW_Qi dC dI cI cZ ad A B E C O n F L V o) ([.ref (ad 0), .int p0, .int p1] : List Value).toArray s 0 0 A) (F0 m pc ls [.int o]) := fun pc H locs ls hP hD hS hn hd => W.zret (v := o) hx hb hr hn (fun t ht hW => ⟨⟨o, (), rfl, rfl, by rw [ht]; exact hP, va_K.moved hW.alike hK, hD⟩, hS.F ht⟩) hS.2.2 hd
  unfold f_G_leaves at hf
  refine lv_aload_n hx hb d_G_leaves_0 rfl (lv_at hl 0 rfl) ?_
  refine va_get (D := (dC, dI)) (ci := 0) (v := .ref (ad 4)) (C := R_G) (T := F_G) (N := 8) hx hb hts i_G hown hK hP 0 rfl rfl 3 (by decide) (hts _ fl_G_19) (fun _ h9 => h9) rfl d_G_leaves_1 ?_
  refine lv_iload_n hx hb d_G_leaves_4 rfl (lv_at hl 1 rfl) ?_
  obtain ⟨hi, hf⟩ := fg_og_some hf
  refine va_zald hx hb hK hP 4 1 rfl rfl (ix_in hi) d_G_leaves_5 ?_
  refine lv_if_eq (tgt := 39) hx hb d_G_leaves_6 (by decide) (fun hc => ?_) (fun hc => ?_)
  · rw [if_pos hc] at hf
    refine lv_iconst (v := 0) hx hb d_G_leaves_39 (by decide) ?_
    cases hf
    exact hE _ _ _ _ hP hD hS (by first | decide | (dsimp only; decide)) d_G_leaves_40
  · rw [if_neg hc] at hf
    refine lv_iload_n hx hb d_G_leaves_9 rfl (lv_at hl 2 rfl) ?_
    refine lv_aload_n hx hb d_G_leaves_10 rfl (lv_at hl 0 rfl) ?_
    refine va_get (D := (dC, dI)) (ci := 0) (v := .ref (ad 1)) (C := R_G) (T := F_G) (N := 8) hx hb hts i_G hown hK hP 0 rfl rfl 0 (by decide) (hts _ fl_G_9) (fun _ h9 => h9) rfl d_G_leaves_11 ?_
    refine lv_iload_n hx hb d_G_leaves_14 rfl (lv_at hl 1 rfl) ?_
    obtain ⟨hi, hf⟩ := fg_og_some hf
    refine va_iald hx hb hK hP 1 0 rfl rfl (ix_in hi) d_G_leaves_15 ?_
    obtain ⟨o1, hco1, hf⟩ := fg_ob_some hf
    refine fg_r0 (W.runS (As := [.int p1, .int (B p0.toNatClampNeg)]) (rest := []) ⟨hx, hb, hml, hown, hts⟩ (c_G_has l p1 (B p0.toNatClampNeg) o1 hco1) (cwS 2 hts gs_G_74 rfl rfl rfl (by decide +kernel) ⟨Nat.le_of_ble_eq_true rfl, Nat.le_of_ble_eq_true rfl⟩) preEq rfl rfl hl.1 rfl (lv_room (Nat.le_of_ble_eq_true rfl)) d_G_leaves_16 ⟨Nat.le_of_ble_eq_true rfl, Nat.le_of_ble_eq_true rfl⟩) ?_
    refine lv_if_eq (tgt := 39) hx hb d_G_leaves_19 (by decide) (fun hc => ?_) (fun hc => ?_)
    · rw [if_pos hc] at hf
      refine lv_iconst (v := 0) hx hb d_G_leaves_39 (by decide) ?_
      cases hf
      exact hE _ _ _ _ hP hD hS (by first | decide | (dsimp only; decide)) d_G_leaves_40
    · rw [if_neg hc] at hf
      refine lv_iload_n hx hb d_G_leaves_22 rfl (lv_at hl 2 rfl) ?_
      refine lv_aload_n hx hb d_G_leaves_23 rfl (lv_at hl 0 rfl) ?_
      refine va_get (D := (dC, dI)) (ci := 0) (v := .ref (ad 2)) (C := R_G) (T := F_G) (N := 8) hx hb hts i_G hown hK hP 0 rfl rfl 1 (by decide) (hts _ fl_G_13) (fun _ h9 => h9) rfl d_G_leaves_24 ?_
      refine lv_iload_n hx hb d_G_leaves_27 rfl (lv_at hl 1 rfl) ?_
      obtain ⟨hi, hf⟩ := fg_og_some hf
      refine va_iald hx hb hK hP 2 0 rfl rfl (ix_in hi) d_G_leaves_28 ?_
      obtain ⟨o2, hco2, hf⟩ := fg_ob_some hf
      refine fg_r0 (W.runS (As := [.int p1, .int (E p0.toNatClampNeg)]) (rest := []) ⟨hx, hb, hml, hown, hts⟩ (c_G_has l p1 (E p0.toNatClampNeg) o2 hco2) (cwS 2 hts gs_G_74 rfl rfl rfl (by decide +kernel) ⟨Nat.le_of_ble_eq_true rfl, Nat.le_of_ble_eq_true rfl⟩) preEq rfl rfl hl.1 rfl (lv_room (Nat.le_of_ble_eq_true rfl)) d_G_leaves_29 ⟨Nat.le_of_ble_eq_true rfl, Nat.le_of_ble_eq_true rfl⟩) ?_
      refine lv_if_ne (tgt := 39) hx hb d_G_leaves_32 (by decide) (fun hc => ?_) (fun hc => ?_)
      · rw [if_neg hc] at hf
        refine lv_iconst (v := 0) hx hb d_G_leaves_39 (by decide) ?_
        cases hf
        exact hE _ _ _ _ hP hD hS (by first | decide | (dsimp only; decide)) d_G_leaves_40
      · rw [if_pos hc] at hf
        refine lv_iconst (v := 1) hx hb d_G_leaves_35 (by decide) ?_
        refine lv_goto (tgt := 40) hx hb d_G_leaves_36 (by decide) ?_
        cases hf
        exact hE _ _ _ _ hP hD hS (by first | decide | (dsimp only; decide)) d_G_leaves_40
set_option maxHeartbeats 4000000 in
set_option maxRecDepth 100000 in
theorem w_G_spreadByEachRule_4 {p : Program} {l : Launch} {e : Env} {s : State} {m : MethodId} {args : Array Value} {below : List Frame} {meth : Method} {c : Code} {Q : State → Prop} {A : Nat → Prop} {dC : Nat → ClassId} {dI : Nat → Nat → Nat} {cI cZ : ClassId} {ad : Nat → Nat} (hx : p.tables.exec = Jvm.exec) (hb : c.code = b_G_spreadByEachRule) (hml : c.maxLocals = 8) (hown : s.vm.findClass R_G = some m.cls) (hts : ∀ w ∈ gw, w.before args s = true) (hK : va_K (dC, dI) classes (gT cI cZ) s) (hA : ∀ q : Nat, s.heap.size ≤ q → A q) (B : fg_A) (E : fg_A) (C : fg_A) (O : fg_A) (n : Int32) (F : fg_A) (L : fg_A) :
    ∀ (k : Nat) (x2 : Int32) (x3 : Int32) (V : fg_A) (o : Int32 × fg_A), f_G_spreadByEachRule_4 B E C O n L k x2 x3 V = some o → ∀ (H : Heap) (locs : List Loc) (ls : Array Slot), va_P (dC, dI) classes (gW cI cZ ad B E C O n F L V) H → va_D A (gW cI cZ ad B E C O n F L V) → va_S A s.heap H locs → lv_has ls 8 [(0, .ref (ad 0)), (2, .int x2), (3, .int x3)] →
    (∀ (H : Heap) (locs : List Loc) (ls : Array Slot), va_P (dC, dI) classes (gW cI cZ ad B E C O n F L o.2) H → va_D A (gW cI cZ ad B E C O n F L o.2) → va_S A s.heap H locs → lv_has ls 8 [(2, .int o.1)] → W p l e (headSpec w_G_spreadByEachRule rm_G_spreadByEachRule).room s m args below meth c H locs 0 0 Q (F0 m 138 ls [])) → W p l e (headSpec w_G_spreadByEachRule rm_G_spreadByEachRule).room s m args below meth c H locs 0 0 Q (F0 m 4 ls []) := by
  intro k
  induction k with
  | zero =>
    intro x2 x3 V o hf
    exact absurd (show none = some o from hf) (by simp)
  | succ k ih =>
    intro x2 x3 V o hf H locs ls hP hD hS hl hk
    rw [f_G_spreadByEachRule_4] at hf
    refine lv_iload_n hx hb d_G_spreadByEachRule_4 rfl (lv_at hl 2 rfl) ?_
    refine lv_aload_n hx hb d_G_spreadByEachRule_5 rfl (lv_at hl 0 rfl) ?_
    refine va_get (D := (dC, dI)) (ci := 0) (v := .int n) (C := R_G) (T := F_G) (N := 8) hx hb hts i_G hown hK hP 0 rfl rfl 4 (by decide) (hts _ fl_G_23) (fun _ h9 => h9) rfl d_G_spreadByEachRule_6 ?_
    refine lv_icmp_ge (tgt := 138) hx hb d_G_spreadByEachRule_9 (by decide) (fun hc => ?_) (fun hc => ?_)
    · rw [if_pos hc] at hf
      cases hf
      exact hk _ _ _ hP hD hS (lv_sub hl [1] rfl)
    · rw [if_neg hc] at hf
      refine lv_aload_n hx hb d_G_spreadByEachRule_12 rfl (lv_at hl 0 rfl) ?_
      refine va_get (D := (dC, dI)) (ci := 0) (v := .ref (ad 1)) (C := R_G) (T := F_G) (N := 8) hx hb hts i_G hown hK hP 0 rfl rfl 0 (by decide) (hts _ fl_G_9) (fun _ h9 => h9) rfl d_G_spreadByEachRule_13 ?_
      refine lv_iload_n hx hb d_G_spreadByEachRule_16 rfl (lv_at hl 2 rfl) ?_
      obtain ⟨hi, hf⟩ := fg_og_some hf
      refine va_iald hx hb hK hP 1 0 rfl rfl (ix_in hi) d_G_spreadByEachRule_17 ?_
      refine lv_istore (lv' := [(4, .int (B x3.toNatClampNeg)), (0, .ref (ad 0)), (2, .int x2), (3, .int x3)]) hx hb d_G_spreadByEachRule_18 hl (by decide) rfl (fun ls hl => ?_)
      refine lv_aload_n hx hb d_G_spreadByEachRule_20 rfl (lv_at hl 1 rfl) ?_
      refine va_get (D := (dC, dI)) (ci := 0) (v := .ref (ad 2)) (C := R_G) (T := F_G) (N := 8) hx hb hts i_G hown hK hP 0 rfl rfl 1 (by decide) (hts _ fl_G_13) (fun _ h9 => h9) rfl d_G_spreadByEachRule_21 ?_
      refine lv_iload_n hx hb d_G_spreadByEachRule_24 rfl (lv_at hl 3 rfl) ?_
      obtain ⟨hi, hf⟩ := fg_og_some hf
      refine va_iald hx hb hK hP 2 0 rfl rfl (ix_in hi) d_G_spreadByEachRule_25 ?_
      refine lv_istore (lv' := [(5, .int (E x3.toNatClampNeg)), (4, .int (B x3.toNatClampNeg)), (0, .ref (ad 0)), (2, .int x2), (3, .int x3)]) hx hb d_G_spreadByEachRule_26 hl (by decide) rfl (fun ls hl => ?_)
      refine lv_iload_n hx hb d_G_spreadByEachRule_28 rfl (lv_at hl 3 rfl) ?_
      refine lv_iload hx hb d_G_spreadByEachRule_29 (lv_at hl 1 rfl) ?_
      obtain ⟨o1, hco1, hf⟩ := fg_ob_some hf
      refine fg_r0 (W.runS (As := [.int x2, .int (B x3.toNatClampNeg)]) (rest := []) ⟨hx, hb, hml, hown, hts⟩ (c_G_has l x2 (B x3.toNatClampNeg) o1 hco1) (cwS 2 hts gs_G_74 rfl rfl rfl (by decide +kernel) ⟨Nat.le_of_ble_eq_true rfl, Nat.le_of_ble_eq_true rfl⟩) preEq rfl rfl hl.1 rfl (lv_room (Nat.le_of_ble_eq_true rfl)) d_G_spreadByEachRule_31 ⟨Nat.le_of_ble_eq_true rfl, Nat.le_of_ble_eq_true rfl⟩) ?_
      refine lv_istore (lv' := [(6, .int o1), (5, .int (E x3.toNatClampNeg)), (4, .int (B x3.toNatClampNeg)), (0, .ref (ad 0)), (2, .int x2), (3, .int x3)]) hx hb d_G_spreadByEachRule_34 hl (by decide) rfl (fun ls hl => ?_)
      refine lv_iload_n hx hb d_G_spreadByEachRule_36 rfl (lv_at hl 4 rfl) ?_
      refine lv_iload hx hb d_G_spreadByEachRule_37 (lv_at hl 1 rfl) ?_
      obtain ⟨o2, hco2, hf⟩ := fg_ob_some hf
      refine fg_r0 (W.runS (As := [.int x2, .int (E x3.toNatClampNeg)]) (rest := []) ⟨hx, hb, hml, hown, hts⟩ (c_G_has l x2 (E x3.toNatClampNeg) o2 hco2) (cwS 2 hts gs_G_74 rfl rfl rfl (by decide +kernel) ⟨Nat.le_of_ble_eq_true rfl, Nat.le_of_ble_eq_true rfl⟩) preEq rfl rfl hl.1 rfl (lv_room (Nat.le_of_ble_eq_true rfl)) d_G_spreadByEachRule_39 ⟨Nat.le_of_ble_eq_true rfl, Nat.le_of_ble_eq_true rfl⟩) ?_
      refine lv_istore (lv' := [(7, .int o2), (6, .int o1), (5, .int (E x3.toNatClampNeg)), (4, .int (B x3.toNatClampNeg)), (0, .ref (ad 0)), (2, .int x2), (3, .int x3)]) hx hb d_G_spreadByEachRule_42 hl (by decide) rfl (fun ls hl => ?_)
      refine lv_iload hx hb d_G_spreadByEachRule_44 (lv_at hl 1 rfl) ?_
      refine lv_if_eq (tgt := 97) hx hb d_G_spreadByEachRule_46 (by decide) (fun hc => ?_) (fun hc => ?_)
      · rw [if_pos hc] at hf
        refine lv_iload hx hb d_G_spreadByEachRule_97 (lv_at hl 0 rfl) ?_
        refine lv_if_eq (tgt := 132) hx hb d_G_spreadByEachRule_99 (by decide) (fun hc => ?_) (fun hc => ?_)
        · rw [if_pos hc] at hf
          refine lv_iinc (v := x3 + 1) (lv' := [(3, .int (x3 + 1)), (7, .int o2), (6, .int o1), (5, .int (E x3.toNatClampNeg)), (4, .int (B x3.toNatClampNeg)), (0, .ref (ad 0)), (2, .int x2)]) hx hb d_G_spreadByEachRule_132 hl (k := 6) rfl rfl (by decide) rfl (fun ls hl => ?_)
          refine lv_goto (tgt := 4) hx hb d_G_spreadByEachRule_135 (by decide) ?_
          exact ih x2 (x3 + 1) V _ hf _ _ _ hP hD hS (lv_sub hl [5, 6, 0] rfl) hk
        · rw [if_neg hc] at hf
          refine lv_iload hx hb d_G_spreadByEachRule_102 (lv_at hl 1 rfl) ?_
          refine lv_if_ne (tgt := 132) hx hb d_G_spreadByEachRule_104 (by decide) (fun hc => ?_) (fun hc => ?_)
          · rw [if_neg hc] at hf
            refine lv_iinc (v := x3 + 1) (lv' := [(3, .int (x3 + 1)), (7, .int o2), (6, .int o1), (5, .int (E x3.toNatClampNeg)), (4, .int (B x3.toNatClampNeg)), (0, .ref (ad 0)), (2, .int x2)]) hx hb d_G_spreadByEachRule_132 hl (k := 6) rfl rfl (by decide) rfl (fun ls hl => ?_)
            refine lv_goto (tgt := 4) hx hb d_G_spreadByEachRule_135 (by decide) ?_
            exact ih x2 (x3 + 1) V _ hf _ _ _ hP hD hS (lv_sub hl [5, 6, 0] rfl) hk
          · rw [if_pos hc] at hf
            refine lv_aload_n hx hb d_G_spreadByEachRule_107 rfl (lv_at hl 4 rfl) ?_
            refine va_get (D := (dC, dI)) (ci := 0) (v := .ref (ad 6)) (C := R_G) (T := F_G) (N := 8) hx hb hts i_G hown hK hP 0 rfl rfl 6 (by decide) (hts _ fl_G_30) (fun _ h9 => h9) rfl d_G_spreadByEachRule_108 ?_
            refine lv_iload_n hx hb d_G_spreadByEachRule_111 rfl (lv_at hl 6 rfl) ?_
            obtain ⟨hi, hf⟩ := fg_og_some hf
            refine va_iald hx hb hK hP 6 0 rfl rfl (ix_in hi) d_G_spreadByEachRule_112 ?_
            refine lv_if_le (tgt := 132) hx hb d_G_spreadByEachRule_113 (by decide) (fun hc => ?_) (fun hc => ?_)
            · rw [if_pos hc] at hf
              refine lv_iinc (v := x3 + 1) (lv' := [(3, .int (x3 + 1)), (7, .int o2), (6, .int o1), (5, .int (E x3.toNatClampNeg)), (4, .int (B x3.toNatClampNeg)), (0, .ref (ad 0)), (2, .int x2)]) hx hb d_G_spreadByEachRule_132 hl (k := 6) rfl rfl (by decide) rfl (fun ls hl => ?_)
              refine lv_goto (tgt := 4) hx hb d_G_spreadByEachRule_135 (by decide) ?_
              exact ih x2 (x3 + 1) V _ hf _ _ _ hP hD hS (lv_sub hl [5, 6, 0] rfl) hk
            · rw [if_neg hc] at hf
              refine lv_iload_n hx hb d_G_spreadByEachRule_116 rfl (lv_at hl 5 rfl) ?_
              refine lv_iload hx hb d_G_spreadByEachRule_117 (lv_at hl 3 rfl) ?_
              obtain ⟨o3, hco3, hf⟩ := fg_ob_some hf
              refine fg_r0 (W.runS (As := [.int (B x3.toNatClampNeg)]) (rest := [.int x2]) ⟨hx, hb, hml, hown, hts⟩ (c_G_bit l (B x3.toNatClampNeg) o3 hco3) (cwS 1 hts gs_G_78 rfl rfl rfl (by decide +kernel) ⟨Nat.le_of_ble_eq_true rfl, Nat.le_of_ble_eq_true rfl⟩) preEq rfl rfl hl.1 rfl (lv_room (Nat.le_of_ble_eq_true rfl)) d_G_spreadByEachRule_119 ⟨Nat.le_of_ble_eq_true rfl, Nat.le_of_ble_eq_true rfl⟩) ?_
              refine lv_ior hx hb d_G_spreadByEachRule_122 ?_
              refine lv_istore_n (lv' := [(2, .int (x2 ||| o3)), (7, .int o2), (6, .int o1), (5, .int (E x3.toNatClampNeg)), (4, .int (B x3.toNatClampNeg)), (0, .ref (ad 0)), (3, .int x3)]) hx hb d_G_spreadByEachRule_123 rfl hl (by decide) rfl (fun ls hl => ?_)
              refine lv_aload_n hx hb d_G_spreadByEachRule_124 rfl (lv_at hl 5 rfl) ?_
              refine va_get (D := (dC, dI)) (ci := 0) (v := .ref (ad 7)) (C := R_G) (T := F_G) (N := 8) hx hb hts i_G hown hK hP 0 rfl rfl 7 (by decide) (hts _ fl_G_33) (fun _ h9 => h9) rfl d_G_spreadByEachRule_125 ?_
              refine lv_iload hx hb d_G_spreadByEachRule_128 (lv_at hl 4 rfl) ?_
              refine lv_iload_n hx hb d_G_spreadByEachRule_130 rfl (lv_at hl 6 rfl) ?_
              obtain ⟨hi, hf⟩ := fg_og_some hf
              refine va_iast hx hb hK hP hD hS 7 0 rfl rfl (ix_in hi) d_G_spreadByEachRule_131 (fun H locs hP hD hS => ?_)
              have hP : va_P (dC, dI) classes (gW cI cZ ad B E C O n F L (upd V (B x3.toNatClampNeg).toNatClampNeg x3)) H := hP
              have hD : va_D A (gW cI cZ ad B E C O n F L (upd V (B x3.toNatClampNeg).toNatClampNeg x3)) := hD
              refine lv_iinc (v := x3 + 1) (lv' := [(3, .int (x3 + 1)), (2, .int (x2 ||| o3)), (7, .int o2), (6, .int o1), (5, .int (E x3.toNatClampNeg)), (4, .int (B x3.toNatClampNeg)), (0, .ref (ad 0))]) hx hb d_G_spreadByEachRule_132 hl (k := 6) rfl rfl (by decide) rfl (fun ls hl => ?_)
              refine lv_goto (tgt := 4) hx hb d_G_spreadByEachRule_135 (by decide) ?_
              exact ih (x2 ||| o3) (x3 + 1) (upd V (B x3.toNatClampNeg).toNatClampNeg x3) _ hf _ _ _ hP hD hS (lv_sub hl [6, 1, 0] rfl) hk
      · rw [if_neg hc] at hf
        refine lv_iload hx hb d_G_spreadByEachRule_49 (lv_at hl 0 rfl) ?_
        refine lv_if_ne (tgt := 97) hx hb d_G_spreadByEachRule_51 (by decide) (fun hc => ?_) (fun hc => ?_)
        · rw [if_neg hc] at hf
          refine lv_iload hx hb d_G_spreadByEachRule_97 (lv_at hl 0 rfl) ?_
          refine lv_if_eq (tgt := 132) hx hb d_G_spreadByEachRule_99 (by decide) (fun hc => ?_) (fun hc => ?_)
          · rw [if_pos hc] at hf
            refine lv_iinc (v := x3 + 1) (lv' := [(3, .int (x3 + 1)), (7, .int o2), (6, .int o1), (5, .int (E x3.toNatClampNeg)), (4, .int (B x3.toNatClampNeg)), (0, .ref (ad 0)), (2, .int x2)]) hx hb d_G_spreadByEachRule_132 hl (k := 6) rfl rfl (by decide) rfl (fun ls hl => ?_)
            refine lv_goto (tgt := 4) hx hb d_G_spreadByEachRule_135 (by decide) ?_
            exact ih x2 (x3 + 1) V _ hf _ _ _ hP hD hS (lv_sub hl [5, 6, 0] rfl) hk
          · rw [if_neg hc] at hf
            refine lv_iload hx hb d_G_spreadByEachRule_102 (lv_at hl 1 rfl) ?_
            refine lv_if_ne (tgt := 132) hx hb d_G_spreadByEachRule_104 (by decide) (fun hc => ?_) (fun hc => ?_)
            · rw [if_neg hc] at hf
              refine lv_iinc (v := x3 + 1) (lv' := [(3, .int (x3 + 1)), (7, .int o2), (6, .int o1), (5, .int (E x3.toNatClampNeg)), (4, .int (B x3.toNatClampNeg)), (0, .ref (ad 0)), (2, .int x2)]) hx hb d_G_spreadByEachRule_132 hl (k := 6) rfl rfl (by decide) rfl (fun ls hl => ?_)
              refine lv_goto (tgt := 4) hx hb d_G_spreadByEachRule_135 (by decide) ?_
              exact ih x2 (x3 + 1) V _ hf _ _ _ hP hD hS (lv_sub hl [5, 6, 0] rfl) hk
            · rw [if_pos hc] at hf
              refine lv_aload_n hx hb d_G_spreadByEachRule_107 rfl (lv_at hl 4 rfl) ?_
              refine va_get (D := (dC, dI)) (ci := 0) (v := .ref (ad 6)) (C := R_G) (T := F_G) (N := 8) hx hb hts i_G hown hK hP 0 rfl rfl 6 (by decide) (hts _ fl_G_30) (fun _ h9 => h9) rfl d_G_spreadByEachRule_108 ?_
              refine lv_iload_n hx hb d_G_spreadByEachRule_111 rfl (lv_at hl 6 rfl) ?_
              obtain ⟨hi, hf⟩ := fg_og_some hf
              refine va_iald hx hb hK hP 6 0 rfl rfl (ix_in hi) d_G_spreadByEachRule_112 ?_
              refine lv_if_le (tgt := 132) hx hb d_G_spreadByEachRule_113 (by decide) (fun hc => ?_) (fun hc => ?_)
              · rw [if_pos hc] at hf
                refine lv_iinc (v := x3 + 1) (lv' := [(3, .int (x3 + 1)), (7, .int o2), (6, .int o1), (5, .int (E x3.toNatClampNeg)), (4, .int (B x3.toNatClampNeg)), (0, .ref (ad 0)), (2, .int x2)]) hx hb d_G_spreadByEachRule_132 hl (k := 6) rfl rfl (by decide) rfl (fun ls hl => ?_)
                refine lv_goto (tgt := 4) hx hb d_G_spreadByEachRule_135 (by decide) ?_
                exact ih x2 (x3 + 1) V _ hf _ _ _ hP hD hS (lv_sub hl [5, 6, 0] rfl) hk
              · rw [if_neg hc] at hf
                refine lv_iload_n hx hb d_G_spreadByEachRule_116 rfl (lv_at hl 5 rfl) ?_
                refine lv_iload hx hb d_G_spreadByEachRule_117 (lv_at hl 3 rfl) ?_
                obtain ⟨o4, hco4, hf⟩ := fg_ob_some hf
                refine fg_r0 (W.runS (As := [.int (B x3.toNatClampNeg)]) (rest := [.int x2]) ⟨hx, hb, hml, hown, hts⟩ (c_G_bit l (B x3.toNatClampNeg) o4 hco4) (cwS 1 hts gs_G_78 rfl rfl rfl (by decide +kernel) ⟨Nat.le_of_ble_eq_true rfl, Nat.le_of_ble_eq_true rfl⟩) preEq rfl rfl hl.1 rfl (lv_room (Nat.le_of_ble_eq_true rfl)) d_G_spreadByEachRule_119 ⟨Nat.le_of_ble_eq_true rfl, Nat.le_of_ble_eq_true rfl⟩) ?_
                refine lv_ior hx hb d_G_spreadByEachRule_122 ?_
                refine lv_istore_n (lv' := [(2, .int (x2 ||| o4)), (7, .int o2), (6, .int o1), (5, .int (E x3.toNatClampNeg)), (4, .int (B x3.toNatClampNeg)), (0, .ref (ad 0)), (3, .int x3)]) hx hb d_G_spreadByEachRule_123 rfl hl (by decide) rfl (fun ls hl => ?_)
                refine lv_aload_n hx hb d_G_spreadByEachRule_124 rfl (lv_at hl 5 rfl) ?_
                refine va_get (D := (dC, dI)) (ci := 0) (v := .ref (ad 7)) (C := R_G) (T := F_G) (N := 8) hx hb hts i_G hown hK hP 0 rfl rfl 7 (by decide) (hts _ fl_G_33) (fun _ h9 => h9) rfl d_G_spreadByEachRule_125 ?_
                refine lv_iload hx hb d_G_spreadByEachRule_128 (lv_at hl 4 rfl) ?_
                refine lv_iload_n hx hb d_G_spreadByEachRule_130 rfl (lv_at hl 6 rfl) ?_
                obtain ⟨hi, hf⟩ := fg_og_some hf
                refine va_iast hx hb hK hP hD hS 7 0 rfl rfl (ix_in hi) d_G_spreadByEachRule_131 (fun H locs hP hD hS => ?_)
                have hP : va_P (dC, dI) classes (gW cI cZ ad B E C O n F L (upd V (B x3.toNatClampNeg).toNatClampNeg x3)) H := hP
                have hD : va_D A (gW cI cZ ad B E C O n F L (upd V (B x3.toNatClampNeg).toNatClampNeg x3)) := hD
                refine lv_iinc (v := x3 + 1) (lv' := [(3, .int (x3 + 1)), (2, .int (x2 ||| o4)), (7, .int o2), (6, .int o1), (5, .int (E x3.toNatClampNeg)), (4, .int (B x3.toNatClampNeg)), (0, .ref (ad 0))]) hx hb d_G_spreadByEachRule_132 hl (k := 6) rfl rfl (by decide) rfl (fun ls hl => ?_)
                refine lv_goto (tgt := 4) hx hb d_G_spreadByEachRule_135 (by decide) ?_
                exact ih (x2 ||| o4) (x3 + 1) (upd V (B x3.toNatClampNeg).toNatClampNeg x3) _ hf _ _ _ hP hD hS (lv_sub hl [6, 1, 0] rfl) hk
        · rw [if_pos hc] at hf
          refine lv_aload_n hx hb d_G_spreadByEachRule_54 rfl (lv_at hl 4 rfl) ?_
          refine va_get (D := (dC, dI)) (ci := 0) (v := .ref (ad 4)) (C := R_G) (T := F_G) (N := 8) hx hb hts i_G hown hK hP 0 rfl rfl 3 (by decide) (hts _ fl_G_19) (fun _ h9 => h9) rfl d_G_spreadByEachRule_55 ?_
          refine lv_iload_n hx hb d_G_spreadByEachRule_58 rfl (lv_at hl 6 rfl) ?_
          obtain ⟨hi, hf⟩ := fg_og_some hf
          refine va_zald hx hb hK hP 4 1 rfl rfl (ix_in hi) d_G_spreadByEachRule_59 ?_
          refine lv_if_eq (tgt := 97) hx hb d_G_spreadByEachRule_60 (by decide) (fun hc => ?_) (fun hc => ?_)
          · rw [if_pos hc] at hf
            refine lv_iload hx hb d_G_spreadByEachRule_97 (lv_at hl 0 rfl) ?_
            refine lv_if_eq (tgt := 132) hx hb d_G_spreadByEachRule_99 (by decide) (fun hc => ?_) (fun hc => ?_)
            · rw [if_pos hc] at hf
              refine lv_iinc (v := x3 + 1) (lv' := [(3, .int (x3 + 1)), (7, .int o2), (6, .int o1), (5, .int (E x3.toNatClampNeg)), (4, .int (B x3.toNatClampNeg)), (0, .ref (ad 0)), (2, .int x2)]) hx hb d_G_spreadByEachRule_132 hl (k := 6) rfl rfl (by decide) rfl (fun ls hl => ?_)
              refine lv_goto (tgt := 4) hx hb d_G_spreadByEachRule_135 (by decide) ?_
              exact ih x2 (x3 + 1) V _ hf _ _ _ hP hD hS (lv_sub hl [5, 6, 0] rfl) hk
            · rw [if_neg hc] at hf
              refine lv_iload hx hb d_G_spreadByEachRule_102 (lv_at hl 1 rfl) ?_
              refine lv_if_ne (tgt := 132) hx hb d_G_spreadByEachRule_104 (by decide) (fun hc => ?_) (fun hc => ?_)
              · rw [if_neg hc] at hf
                refine lv_iinc (v := x3 + 1) (lv' := [(3, .int (x3 + 1)), (7, .int o2), (6, .int o1), (5, .int (E x3.toNatClampNeg)), (4, .int (B x3.toNatClampNeg)), (0, .ref (ad 0)), (2, .int x2)]) hx hb d_G_spreadByEachRule_132 hl (k := 6) rfl rfl (by decide) rfl (fun ls hl => ?_)
                refine lv_goto (tgt := 4) hx hb d_G_spreadByEachRule_135 (by decide) ?_
                exact ih x2 (x3 + 1) V _ hf _ _ _ hP hD hS (lv_sub hl [5, 6, 0] rfl) hk
              · rw [if_pos hc] at hf
                refine lv_aload_n hx hb d_G_spreadByEachRule_107 rfl (lv_at hl 4 rfl) ?_
                refine va_get (D := (dC, dI)) (ci := 0) (v := .ref (ad 6)) (C := R_G) (T := F_G) (N := 8) hx hb hts i_G hown hK hP 0 rfl rfl 6 (by decide) (hts _ fl_G_30) (fun _ h9 => h9) rfl d_G_spreadByEachRule_108 ?_
                refine lv_iload_n hx hb d_G_spreadByEachRule_111 rfl (lv_at hl 6 rfl) ?_
                obtain ⟨hi, hf⟩ := fg_og_some hf
                refine va_iald hx hb hK hP 6 0 rfl rfl (ix_in hi) d_G_spreadByEachRule_112 ?_
                refine lv_if_le (tgt := 132) hx hb d_G_spreadByEachRule_113 (by decide) (fun hc => ?_) (fun hc => ?_)
                · rw [if_pos hc] at hf
                  refine lv_iinc (v := x3 + 1) (lv' := [(3, .int (x3 + 1)), (7, .int o2), (6, .int o1), (5, .int (E x3.toNatClampNeg)), (4, .int (B x3.toNatClampNeg)), (0, .ref (ad 0)), (2, .int x2)]) hx hb d_G_spreadByEachRule_132 hl (k := 6) rfl rfl (by decide) rfl (fun ls hl => ?_)
                  refine lv_goto (tgt := 4) hx hb d_G_spreadByEachRule_135 (by decide) ?_
                  exact ih x2 (x3 + 1) V _ hf _ _ _ hP hD hS (lv_sub hl [5, 6, 0] rfl) hk
                · rw [if_neg hc] at hf
                  refine lv_iload_n hx hb d_G_spreadByEachRule_116 rfl (lv_at hl 5 rfl) ?_
                  refine lv_iload hx hb d_G_spreadByEachRule_117 (lv_at hl 3 rfl) ?_
                  obtain ⟨o5, hco5, hf⟩ := fg_ob_some hf
                  refine fg_r0 (W.runS (As := [.int (B x3.toNatClampNeg)]) (rest := [.int x2]) ⟨hx, hb, hml, hown, hts⟩ (c_G_bit l (B x3.toNatClampNeg) o5 hco5) (cwS 1 hts gs_G_78 rfl rfl rfl (by decide +kernel) ⟨Nat.le_of_ble_eq_true rfl, Nat.le_of_ble_eq_true rfl⟩) preEq rfl rfl hl.1 rfl (lv_room (Nat.le_of_ble_eq_true rfl)) d_G_spreadByEachRule_119 ⟨Nat.le_of_ble_eq_true rfl, Nat.le_of_ble_eq_true rfl⟩) ?_
                  refine lv_ior hx hb d_G_spreadByEachRule_122 ?_
                  refine lv_istore_n (lv' := [(2, .int (x2 ||| o5)), (7, .int o2), (6, .int o1), (5, .int (E x3.toNatClampNeg)), (4, .int (B x3.toNatClampNeg)), (0, .ref (ad 0)), (3, .int x3)]) hx hb d_G_spreadByEachRule_123 rfl hl (by decide) rfl (fun ls hl => ?_)
                  refine lv_aload_n hx hb d_G_spreadByEachRule_124 rfl (lv_at hl 5 rfl) ?_
                  refine va_get (D := (dC, dI)) (ci := 0) (v := .ref (ad 7)) (C := R_G) (T := F_G) (N := 8) hx hb hts i_G hown hK hP 0 rfl rfl 7 (by decide) (hts _ fl_G_33) (fun _ h9 => h9) rfl d_G_spreadByEachRule_125 ?_
                  refine lv_iload hx hb d_G_spreadByEachRule_128 (lv_at hl 4 rfl) ?_
                  refine lv_iload_n hx hb d_G_spreadByEachRule_130 rfl (lv_at hl 6 rfl) ?_
                  obtain ⟨hi, hf⟩ := fg_og_some hf
                  refine va_iast hx hb hK hP hD hS 7 0 rfl rfl (ix_in hi) d_G_spreadByEachRule_131 (fun H locs hP hD hS => ?_)
                  have hP : va_P (dC, dI) classes (gW cI cZ ad B E C O n F L (upd V (B x3.toNatClampNeg).toNatClampNeg x3)) H := hP
                  have hD : va_D A (gW cI cZ ad B E C O n F L (upd V (B x3.toNatClampNeg).toNatClampNeg x3)) := hD
                  refine lv_iinc (v := x3 + 1) (lv' := [(3, .int (x3 + 1)), (2, .int (x2 ||| o5)), (7, .int o2), (6, .int o1), (5, .int (E x3.toNatClampNeg)), (4, .int (B x3.toNatClampNeg)), (0, .ref (ad 0))]) hx hb d_G_spreadByEachRule_132 hl (k := 6) rfl rfl (by decide) rfl (fun ls hl => ?_)
                  refine lv_goto (tgt := 4) hx hb d_G_spreadByEachRule_135 (by decide) ?_
                  exact ih (x2 ||| o5) (x3 + 1) (upd V (B x3.toNatClampNeg).toNatClampNeg x3) _ hf _ _ _ hP hD hS (lv_sub hl [6, 1, 0] rfl) hk
          · rw [if_neg hc] at hf
            refine lv_aload_n hx hb d_G_spreadByEachRule_63 rfl (lv_at hl 4 rfl) ?_
            refine va_get (D := (dC, dI)) (ci := 0) (v := .ref (ad 6)) (C := R_G) (T := F_G) (N := 8) hx hb hts i_G hown hK hP 0 rfl rfl 6 (by decide) (hts _ fl_G_30) (fun _ h9 => h9) rfl d_G_spreadByEachRule_64 ?_
            refine lv_iload_n hx hb d_G_spreadByEachRule_67 rfl (lv_at hl 6 rfl) ?_
            obtain ⟨hi, hf⟩ := fg_og_some hf
            refine va_iald hx hb hK hP 6 0 rfl rfl (ix_in hi) d_G_spreadByEachRule_68 ?_
            refine lv_aload_n hx hb d_G_spreadByEachRule_69 rfl (lv_at hl 4 rfl) ?_
            refine va_get (D := (dC, dI)) (ci := 0) (v := .ref (ad 3)) (C := R_G) (T := F_G) (N := 8) hx hb hts i_G hown hK hP 0 rfl rfl 2 (by decide) (hts _ fl_G_16) (fun _ h9 => h9) rfl d_G_spreadByEachRule_70 ?_
            refine lv_iload_n hx hb d_G_spreadByEachRule_73 rfl (lv_at hl 6 rfl) ?_
            obtain ⟨hi, hf⟩ := fg_og_some hf
            refine va_iald hx hb hK hP 3 0 rfl rfl (ix_in hi) d_G_spreadByEachRule_74 ?_
            refine lv_icmp_ge (tgt := 97) hx hb d_G_spreadByEachRule_75 (by decide) (fun hc => ?_) (fun hc => ?_)
            · rw [if_pos hc] at hf
              refine lv_iload hx hb d_G_spreadByEachRule_97 (lv_at hl 0 rfl) ?_
              refine lv_if_eq (tgt := 132) hx hb d_G_spreadByEachRule_99 (by decide) (fun hc => ?_) (fun hc => ?_)
              · rw [if_pos hc] at hf
                refine lv_iinc (v := x3 + 1) (lv' := [(3, .int (x3 + 1)), (7, .int o2), (6, .int o1), (5, .int (E x3.toNatClampNeg)), (4, .int (B x3.toNatClampNeg)), (0, .ref (ad 0)), (2, .int x2)]) hx hb d_G_spreadByEachRule_132 hl (k := 6) rfl rfl (by decide) rfl (fun ls hl => ?_)
                refine lv_goto (tgt := 4) hx hb d_G_spreadByEachRule_135 (by decide) ?_
                exact ih x2 (x3 + 1) V _ hf _ _ _ hP hD hS (lv_sub hl [5, 6, 0] rfl) hk
              · rw [if_neg hc] at hf
                refine lv_iload hx hb d_G_spreadByEachRule_102 (lv_at hl 1 rfl) ?_
                refine lv_if_ne (tgt := 132) hx hb d_G_spreadByEachRule_104 (by decide) (fun hc => ?_) (fun hc => ?_)
                · rw [if_neg hc] at hf
                  refine lv_iinc (v := x3 + 1) (lv' := [(3, .int (x3 + 1)), (7, .int o2), (6, .int o1), (5, .int (E x3.toNatClampNeg)), (4, .int (B x3.toNatClampNeg)), (0, .ref (ad 0)), (2, .int x2)]) hx hb d_G_spreadByEachRule_132 hl (k := 6) rfl rfl (by decide) rfl (fun ls hl => ?_)
                  refine lv_goto (tgt := 4) hx hb d_G_spreadByEachRule_135 (by decide) ?_
                  exact ih x2 (x3 + 1) V _ hf _ _ _ hP hD hS (lv_sub hl [5, 6, 0] rfl) hk
                · rw [if_pos hc] at hf
                  refine lv_aload_n hx hb d_G_spreadByEachRule_107 rfl (lv_at hl 4 rfl) ?_
                  refine va_get (D := (dC, dI)) (ci := 0) (v := .ref (ad 6)) (C := R_G) (T := F_G) (N := 8) hx hb hts i_G hown hK hP 0 rfl rfl 6 (by decide) (hts _ fl_G_30) (fun _ h9 => h9) rfl d_G_spreadByEachRule_108 ?_
                  refine lv_iload_n hx hb d_G_spreadByEachRule_111 rfl (lv_at hl 6 rfl) ?_
                  obtain ⟨hi, hf⟩ := fg_og_some hf
                  refine va_iald hx hb hK hP 6 0 rfl rfl (ix_in hi) d_G_spreadByEachRule_112 ?_
                  refine lv_if_le (tgt := 132) hx hb d_G_spreadByEachRule_113 (by decide) (fun hc => ?_) (fun hc => ?_)
                  · rw [if_pos hc] at hf
                    refine lv_iinc (v := x3 + 1) (lv' := [(3, .int (x3 + 1)), (7, .int o2), (6, .int o1), (5, .int (E x3.toNatClampNeg)), (4, .int (B x3.toNatClampNeg)), (0, .ref (ad 0)), (2, .int x2)]) hx hb d_G_spreadByEachRule_132 hl (k := 6) rfl rfl (by decide) rfl (fun ls hl => ?_)
                    refine lv_goto (tgt := 4) hx hb d_G_spreadByEachRule_135 (by decide) ?_
                    exact ih x2 (x3 + 1) V _ hf _ _ _ hP hD hS (lv_sub hl [5, 6, 0] rfl) hk
                  · rw [if_neg hc] at hf
                    refine lv_iload_n hx hb d_G_spreadByEachRule_116 rfl (lv_at hl 5 rfl) ?_
                    refine lv_iload hx hb d_G_spreadByEachRule_117 (lv_at hl 3 rfl) ?_
                    obtain ⟨o6, hco6, hf⟩ := fg_ob_some hf
                    refine fg_r0 (W.runS (As := [.int (B x3.toNatClampNeg)]) (rest := [.int x2]) ⟨hx, hb, hml, hown, hts⟩ (c_G_bit l (B x3.toNatClampNeg) o6 hco6) (cwS 1 hts gs_G_78 rfl rfl rfl (by decide +kernel) ⟨Nat.le_of_ble_eq_true rfl, Nat.le_of_ble_eq_true rfl⟩) preEq rfl rfl hl.1 rfl (lv_room (Nat.le_of_ble_eq_true rfl)) d_G_spreadByEachRule_119 ⟨Nat.le_of_ble_eq_true rfl, Nat.le_of_ble_eq_true rfl⟩) ?_
                    refine lv_ior hx hb d_G_spreadByEachRule_122 ?_
                    refine lv_istore_n (lv' := [(2, .int (x2 ||| o6)), (7, .int o2), (6, .int o1), (5, .int (E x3.toNatClampNeg)), (4, .int (B x3.toNatClampNeg)), (0, .ref (ad 0)), (3, .int x3)]) hx hb d_G_spreadByEachRule_123 rfl hl (by decide) rfl (fun ls hl => ?_)
                    refine lv_aload_n hx hb d_G_spreadByEachRule_124 rfl (lv_at hl 5 rfl) ?_
                    refine va_get (D := (dC, dI)) (ci := 0) (v := .ref (ad 7)) (C := R_G) (T := F_G) (N := 8) hx hb hts i_G hown hK hP 0 rfl rfl 7 (by decide) (hts _ fl_G_33) (fun _ h9 => h9) rfl d_G_spreadByEachRule_125 ?_
                    refine lv_iload hx hb d_G_spreadByEachRule_128 (lv_at hl 4 rfl) ?_
                    refine lv_iload_n hx hb d_G_spreadByEachRule_130 rfl (lv_at hl 6 rfl) ?_
                    obtain ⟨hi, hf⟩ := fg_og_some hf
                    refine va_iast hx hb hK hP hD hS 7 0 rfl rfl (ix_in hi) d_G_spreadByEachRule_131 (fun H locs hP hD hS => ?_)
                    have hP : va_P (dC, dI) classes (gW cI cZ ad B E C O n F L (upd V (B x3.toNatClampNeg).toNatClampNeg x3)) H := hP
                    have hD : va_D A (gW cI cZ ad B E C O n F L (upd V (B x3.toNatClampNeg).toNatClampNeg x3)) := hD
                    refine lv_iinc (v := x3 + 1) (lv' := [(3, .int (x3 + 1)), (2, .int (x2 ||| o6)), (7, .int o2), (6, .int o1), (5, .int (E x3.toNatClampNeg)), (4, .int (B x3.toNatClampNeg)), (0, .ref (ad 0))]) hx hb d_G_spreadByEachRule_132 hl (k := 6) rfl rfl (by decide) rfl (fun ls hl => ?_)
                    refine lv_goto (tgt := 4) hx hb d_G_spreadByEachRule_135 (by decide) ?_
                    exact ih (x2 ||| o6) (x3 + 1) (upd V (B x3.toNatClampNeg).toNatClampNeg x3) _ hf _ _ _ hP hD hS (lv_sub hl [6, 1, 0] rfl) hk
            · rw [if_neg hc] at hf
              refine lv_iload_n hx hb d_G_spreadByEachRule_78 rfl (lv_at hl 5 rfl) ?_
              refine lv_iload hx hb d_G_spreadByEachRule_79 (lv_at hl 2 rfl) ?_
              obtain ⟨o7, hco7, hf⟩ := fg_ob_some hf
              refine fg_r0 (W.runS (As := [.int (E x3.toNatClampNeg)]) (rest := [.int x2]) ⟨hx, hb, hml, hown, hts⟩ (c_G_bit l (E x3.toNatClampNeg) o7 hco7) (cwS 1 hts gs_G_78 rfl rfl rfl (by decide +kernel) ⟨Nat.le_of_ble_eq_true rfl, Nat.le_of_ble_eq_true rfl⟩) preEq rfl rfl hl.1 rfl (lv_room (Nat.le_of_ble_eq_true rfl)) d_G_spreadByEachRule_81 ⟨Nat.le_of_ble_eq_true rfl, Nat.le_of_ble_eq_true rfl⟩) ?_
              refine lv_ior hx hb d_G_spreadByEachRule_84 ?_
              refine lv_istore_n (lv' := [(2, .int (x2 ||| o7)), (7, .int o2), (6, .int o1), (5, .int (E x3.toNatClampNeg)), (4, .int (B x3.toNatClampNeg)), (0, .ref (ad 0)), (3, .int x3)]) hx hb d_G_spreadByEachRule_85 rfl hl (by decide) rfl (fun ls hl => ?_)
              refine lv_aload_n hx hb d_G_spreadByEachRule_86 rfl (lv_at hl 5 rfl) ?_
              refine va_get (D := (dC, dI)) (ci := 0) (v := .ref (ad 7)) (C := R_G) (T := F_G) (N := 8) hx hb hts i_G hown hK hP 0 rfl rfl 7 (by decide) (hts _ fl_G_33) (fun _ h9 => h9) rfl d_G_spreadByEachRule_87 ?_
              refine lv_iload hx hb d_G_spreadByEachRule_90 (lv_at hl 3 rfl) ?_
              refine lv_iload_n hx hb d_G_spreadByEachRule_92 rfl (lv_at hl 6 rfl) ?_
              obtain ⟨hi, hf⟩ := fg_og_some hf
              refine va_iast hx hb hK hP hD hS 7 0 rfl rfl (ix_in hi) d_G_spreadByEachRule_93 (fun H locs hP hD hS => ?_)
              have hP : va_P (dC, dI) classes (gW cI cZ ad B E C O n F L (upd V (E x3.toNatClampNeg).toNatClampNeg x3)) H := hP
              have hD : va_D A (gW cI cZ ad B E C O n F L (upd V (E x3.toNatClampNeg).toNatClampNeg x3)) := hD
              refine lv_goto (tgt := 132) hx hb d_G_spreadByEachRule_94 (by decide) ?_
              refine lv_iinc (v := x3 + 1) (lv' := [(3, .int (x3 + 1)), (2, .int (x2 ||| o7)), (7, .int o2), (6, .int o1), (5, .int (E x3.toNatClampNeg)), (4, .int (B x3.toNatClampNeg)), (0, .ref (ad 0))]) hx hb d_G_spreadByEachRule_132 hl (k := 6) rfl rfl (by decide) rfl (fun ls hl => ?_)
              refine lv_goto (tgt := 4) hx hb d_G_spreadByEachRule_135 (by decide) ?_
              exact ih (x2 ||| o7) (x3 + 1) (upd V (E x3.toNatClampNeg).toNatClampNeg x3) _ hf _ _ _ hP hD hS (lv_sub hl [6, 1, 0] rfl) hk
set_option maxHeartbeats 4000000 in
set_option maxRecDepth 100000 in
theorem c_G_spreadByEachRule (l : Launch) (dC : Nat → ClassId) (dI : Nat → Nat → Nat) (cI cZ : ClassId) (ad : Nat → Nat) (sz : Nat) (B : fg_A) (E : fg_A) (C : fg_A) (O : fg_A) (n : Int32) (F : fg_A) (L : fg_A) (V : fg_A) (p0 : Int32) (o : Int32 × fg_A) (hf : f_G_spreadByEachRule B E C O n L V p0 = some o) : Met l y_G_spreadByEachRule w_G_spreadByEachRule rm_G_spreadByEachRule (gW_Pc dC dI cI cZ ad sz B E C O n F L V [.ref (ad 0), .int p0]) (gW_Qi dC dI cI cZ ad (va_A (gW cI cZ ad B E C O n F L V) sz) B E C O n F L o.2 o.1) 0 0 (va_A (gW cI cZ ad B E C O n F L V) sz) := by
  refine Met.ofW (cc := b_G_spreadByEachRule) (maxL := 8) (ret := (some .int)) (by decide) rfl ?_
  intro p e s m args below meth c s₁ Bd hml hv
  obtain ⟨rfl, hsz, hP, hK, hD0⟩ := hv
  have hx := Bd.exec
  have hb := Bd.bytes
  have hr := Bd.returns
  have hts := fun w h => atoms_spec (ws := w_G_spreadByEachRule) Bd.pre w (List.mem_cons_of_mem _ h)
  have hown : s.vm.findClass R_G = some m.cls := findClass_of_methodNamed Bd.named
  have hlocks := Bd.notSynchronized
  subst hsz
  have hD := hD0.self (sz := s.heap.size)
  generalize hAe : va_A (gW cI cZ ad B E C O n F L V) s.heap.size = A at hD ⊢
  have hA : ∀ q : Nat, s.heap.size ≤ q → A q := fun q h => by rw [← hAe]; exact Or.inr h
  have hS : va_S A s.heap s.heap [] := va_S.rf
  have hl := lv_entry ([.ref (ad 0), .int p0]) (n := 8) (Nat.le_of_ble_eq_true rfl)
  rw [lg_entry_eq]
  generalize (lg_sl ([.ref (ad 0), .int p0]) ++ List.replicate (8 - (lg_sl ([.ref (ad 0), .int p0])).length) Slot.unset).toArray = ls at hl ⊢
  have hl : lv_has ls 8 [(0, .ref (ad 0)), (1, .int p0)] := hl
  have hE : ∀ (pc : Nat) (H : Heap) (locs : List Loc) (ls : Array Slot), va_P (dC, dI) classes (gW cI cZ ad B E C O n F L o.2) H → va_D A (gW cI cZ ad B E C O n F L o.2) → va_S A s.heap H locs → decode b_G_spreadByEachRule pc = .ok (.ireturn, 1) → W p l e (headSpec w_G_spreadByEachRule rm_G_spreadByEachRule).room s m ([.ref (ad 0), .int p0] : List Value).toArray below meth c H locs 0 0 (MQ below (gW_Qi dC dI cI cZ ad A B E C O n F L o.2 o.1) ([.ref (ad 0), .int p0] : List Value).toArray s 0 0 A) (F0 m pc ls [.int o.1]) := fun pc H locs ls hP hD hS hd => W.iret (v := o.1) hx hb hr (fun t ht hW => ⟨⟨o.1, (), rfl, rfl, by rw [ht]; exact hP, va_K.moved hW.alike hK, hD⟩, hS.F ht⟩) hS.2.2 hd
  unfold f_G_spreadByEachRule at hf
  refine lv_iload_n hx hb d_G_spreadByEachRule_0 rfl (lv_at hl 1 rfl) ?_
  refine lv_istore_n (lv' := [(2, .int p0), (0, .ref (ad 0)), (1, .int p0)]) hx hb d_G_spreadByEachRule_1 rfl hl (by decide) rfl (fun ls hl => ?_)
  refine lv_iconst (v := 0) hx hb d_G_spreadByEachRule_2 (by decide) ?_
  refine lv_istore_n (lv' := [(3, .int 0), (2, .int p0), (0, .ref (ad 0)), (1, .int p0)]) hx hb d_G_spreadByEachRule_3 rfl hl (by decide) rfl (fun ls hl => ?_)
  obtain ⟨o1, hco1, hf⟩ := fg_ob_some hf
  refine w_G_spreadByEachRule_4 hx hb hml hown hts hK hA B E C O n F L fu p0 0 V o1 hco1 _ _ _ hP hD hS (lv_sub hl [2, 1, 0] rfl) (fun H locs ls hP hD hS hl => ?_)
  refine lv_iload_n hx hb d_G_spreadByEachRule_138 rfl (lv_at hl 0 rfl) ?_
  cases hf
  exact hE _ _ _ _ hP hD hS d_G_spreadByEachRule_139
