set_option maxHeartbeats 4000000 in
set_option maxRecDepth 100000 in
theorem w_M_passed_56 {p : Program} {l : Launch} {e : Env} {s : State} {m : MethodId} {args : Array Value} {below : List Frame} {meth : Method} {c : Code} {Q : State → Prop} {A : Nat → Prop} {dC : Nat → ClassId} {dI : Nat → Nat → Nat} {cI cZ : ClassId} {ad : Nat → Nat} (hx : p.tables.exec = Jvm.exec) (hb : c.code = b_M_passed) (hml : c.maxLocals = 6) (hown : s.vm.findClass R_M = some m.cls) (hts : ∀ w ∈ gw, w.before args s = true) (hK : va_K (dC, dI) classes (gT cI cZ) s) (hA : ∀ q : Nat, s.heap.size ≤ q → A q) (x1 : Int32) (x2 : Int32) (x4 : Int32) (t : Int32) (n : Int32) (B : fg_A) (E : fg_A) (C : fg_A) (O : fg_A) (L : fg_A) (V : fg_A) :
    ∀ (k : Nat) (x3 : Int32) (x5 : Int32) (F : fg_A) (o : Int32 × fg_A), f_M_passed_56 n B E O x1 x2 x4 k x3 x5 F = some o → ∀ (H : Heap) (locs : List Loc) (ls : Array Slot), va_P (dC, dI) classes (mW cI cZ ad t n B E C O F L V) H → va_D A (mW cI cZ ad t n B E C O F L V) → va_S A s.heap H locs → lv_has ls 6 [(0, .ref (ad 0)), (1, .int x1), (2, .int x2), (3, .int x3), (4, .int x4), (5, .int x5)] →
    (∀ (H : Heap) (locs : List Loc) (ls : Array Slot), va_P (dC, dI) classes (mW cI cZ ad t n B E C O o.2 L V) H → va_D A (mW cI cZ ad t n B E C O o.2 L V) → va_S A s.heap H locs → lv_has ls 6 [(3, .int o.1)] → W p l e (headSpec w_M_passed rm_M_passed).room s m args below meth c H locs 0 0 Q (F0 m 113 ls [])) → W p l e (headSpec w_M_passed rm_M_passed).room s m args below meth c H locs 0 0 Q (F0 m 56 ls []) := by
  intro k
  induction k with
  | zero =>
    intro x3 x5 F o hf
    exact absurd (show none = some o from hf) (by simp)
  | succ k ih =>
    intro x3 x5 F o hf H locs ls hP hD hS hl hk
    rw [f_M_passed_56] at hf
    refine lv_iload hx hb d_M_passed_56 (lv_at hl 5 rfl) ?_
    refine lv_bipush (v := 28) hx hb d_M_passed_58 (by decide) ?_
    refine lv_icmp_ge (tgt := 113) hx hb d_M_passed_60 (by decide) (fun hc => ?_) (fun hc => ?_)
    · rw [if_pos hc] at hf
      cases hf
      exact hk _ _ _ hP hD hS (lv_sub hl [3] rfl)
    · rw [if_neg hc] at hf
      refine lv_iload hx hb d_M_passed_63 (lv_at hl 4 rfl) ?_
      refine lv_if_eq (tgt := 113) hx hb d_M_passed_65 (by decide) (fun hc => ?_) (fun hc => ?_)
      · rw [if_pos hc] at hf
        cases hf
        exact hk _ _ _ hP hD hS (lv_sub hl [3] rfl)
      · rw [if_neg hc] at hf
        refine lv_iload hx hb d_M_passed_68 (lv_at hl 5 rfl) ?_
        refine lv_iload_n hx hb d_M_passed_70 rfl (lv_at hl 1 rfl) ?_
        refine lv_icmp_eq (tgt := 107) hx hb d_M_passed_71 (by decide) (fun hc => ?_) (fun hc => ?_)
        · rw [if_pos hc] at hf
          refine lv_iinc (v := x5 + 1) (lv' := [(5, .int (x5 + 1)), (0, .ref (ad 0)), (1, .int x1), (2, .int x2), (3, .int x3), (4, .int x4)]) hx hb d_M_passed_107 hl (k := 5) rfl rfl (by decide) rfl (fun ls hl => ?_)
          refine lv_goto (tgt := 56) hx hb d_M_passed_110 (by decide) ?_
          exact ih x3 (x5 + 1) F _ hf _ _ _ hP hD hS (lv_sub hl [1, 2, 3, 4, 5, 0] rfl) hk
        · rw [if_neg hc] at hf
          refine lv_iload hx hb d_M_passed_74 (lv_at hl 5 rfl) ?_
          refine lv_iload_n hx hb d_M_passed_76 rfl (lv_at hl 2 rfl) ?_
          refine lv_icmp_eq (tgt := 107) hx hb d_M_passed_77 (by decide) (fun hc => ?_) (fun hc => ?_)
          · rw [if_pos hc] at hf
            refine lv_iinc (v := x5 + 1) (lv' := [(5, .int (x5 + 1)), (0, .ref (ad 0)), (1, .int x1), (2, .int x2), (3, .int x3), (4, .int x4)]) hx hb d_M_passed_107 hl (k := 5) rfl rfl (by decide) rfl (fun ls hl => ?_)
            refine lv_goto (tgt := 56) hx hb d_M_passed_110 (by decide) ?_
            exact ih x3 (x5 + 1) F _ hf _ _ _ hP hD hS (lv_sub hl [1, 2, 3, 4, 5, 0] rfl) hk
          · rw [if_neg hc] at hf
            refine lv_aload_n hx hb d_M_passed_80 rfl (lv_at hl 0 rfl) ?_
            refine lv_iload_n hx hb d_M_passed_81 rfl (lv_at hl 2 rfl) ?_
            refine lv_iload hx hb d_M_passed_82 (lv_at hl 5 rfl) ?_
            obtain ⟨o1, hco1, hf⟩ := fg_ob_some hf
            refine fgM_v (va_runV (As := [.int x2, .int x5]) (rest := []) ⟨hx, hb, hml, hown, hts⟩ (c_M_measure l dC dI cI cZ ad _ t n B E C O F L V x2 x5 o1 hco1) (cwV 2 hts gv_M_51 rfl rfl rfl (by decide +kernel) ⟨Nat.le_of_ble_eq_true rfl, Nat.le_of_ble_eq_true rfl⟩) (mW_pre hK hP hD) rfl rfl hl.1 rfl (lv_room (Nat.le_of_ble_eq_true rfl)) d_M_passed_84 ⟨Nat.le_of_ble_eq_true rfl, Nat.le_of_ble_eq_true rfl⟩) hP hD hS hA (fun H locs hP hD hS => ?_)
            refine lv_aload_n hx hb d_M_passed_87 rfl (lv_at hl 0 rfl) ?_
            refine va_get (D := (dC, dI)) (ci := 1) (v := .ref (ad 5)) (C := R_M) (T := F_M) (N := 9) hx hb hts i_M hown hK hP 0 rfl rfl 6 (by decide) (hts _ fl_M_23) (fun _ h9 => h9) rfl d_M_passed_88 ?_
            refine lv_iload_n hx hb d_M_passed_91 rfl (lv_at hl 1 rfl) ?_
            obtain ⟨hi, hf⟩ := fg_og_some hf
            refine va_iald hx hb hK hP 5 0 rfl rfl (ix_in hi) d_M_passed_92 ?_
            refine lv_if_ge (tgt := 105) hx hb d_M_passed_93 (by decide) (fun hc => ?_) (fun hc => ?_)
            · rw [if_pos hc] at hf
              refine lv_iload_n hx hb d_M_passed_105 rfl (lv_at hl 3 rfl) ?_
              refine lv_istore_n (lv' := [(3, .int x3), (0, .ref (ad 0)), (1, .int x1), (2, .int x2), (4, .int x4), (5, .int x5)]) hx hb d_M_passed_106 rfl hl (by decide) rfl (fun ls hl => ?_)
              refine lv_iinc (v := x5 + 1) (lv' := [(5, .int (x5 + 1)), (3, .int x3), (0, .ref (ad 0)), (1, .int x1), (2, .int x2), (4, .int x4)]) hx hb d_M_passed_107 hl (k := 5) rfl rfl (by decide) rfl (fun ls hl => ?_)
              refine lv_goto (tgt := 56) hx hb d_M_passed_110 (by decide) ?_
              exact ih x3 (x5 + 1) o1 _ hf _ _ _ hP hD hS (lv_sub hl [2, 3, 4, 1, 5, 0] rfl) hk
            · rw [if_neg hc] at hf
              refine lv_iload_n hx hb d_M_passed_96 rfl (lv_at hl 3 rfl) ?_
              refine lv_iconst (v := 1) hx hb d_M_passed_97 (by decide) ?_
              refine lv_iload hx hb d_M_passed_98 (lv_at hl 5 rfl) ?_
              refine lv_ishl hx hb d_M_passed_100 ?_
              refine lv_ior hx hb d_M_passed_101 ?_
              refine lv_goto (tgt := 106) hx hb d_M_passed_102 (by decide) ?_
              refine lv_istore_n (lv' := [(3, .int (x3 ||| (1 <<< (x5 &&& 31)))), (0, .ref (ad 0)), (1, .int x1), (2, .int x2), (4, .int x4), (5, .int x5)]) hx hb d_M_passed_106 rfl hl (by decide) rfl (fun ls hl => ?_)
              refine lv_iinc (v := x5 + 1) (lv' := [(5, .int (x5 + 1)), (3, .int (x3 ||| (1 <<< (x5 &&& 31)))), (0, .ref (ad 0)), (1, .int x1), (2, .int x2), (4, .int x4)]) hx hb d_M_passed_107 hl (k := 5) rfl rfl (by decide) rfl (fun ls hl => ?_)
              refine lv_goto (tgt := 56) hx hb d_M_passed_110 (by decide) ?_
              exact ih (x3 ||| (1 <<< (x5 &&& 31))) (x5 + 1) o1 _ hf _ _ _ hP hD hS (lv_sub hl [2, 3, 4, 1, 5, 0] rfl) hk
set_option maxHeartbeats 4000000 in
set_option maxRecDepth 100000 in
theorem c_M_passed (l : Launch) (dC : Nat → ClassId) (dI : Nat → Nat → Nat) (cI cZ : ClassId) (ad : Nat → Nat) (sz : Nat) (t : Int32) (n : Int32) (B : fg_A) (E : fg_A) (C : fg_A) (O : fg_A) (F : fg_A) (L : fg_A) (V : fg_A) (p0 : Int32) (p1 : Int32) (o : Int32 × Int32 × fg_A) (hf : f_M_passed t n B E O F p0 p1 = some o) : Met l y_M_passed w_M_passed rm_M_passed (mW_Pc dC dI cI cZ ad sz t n B E C O F L V [.ref (ad 0), .int p0, .int p1]) (mW_Qi dC dI cI cZ ad (va_A (mW cI cZ ad t n B E C O F L V) sz) o.2.1 n B E C O o.2.2 L V o.1) 0 0 (va_A (mW cI cZ ad t n B E C O F L V) sz) := by
  refine Met.ofW (cc := b_M_passed) (maxL := 6) (ret := (some .int)) (by decide) rfl ?_
  intro p e s m args below meth c s₁ Bd hml hv
  obtain ⟨rfl, hsz, hP, hK, hD0⟩ := hv
  have hx := Bd.exec
  have hb := Bd.bytes
  have hr := Bd.returns
  have hts := fun w h => atoms_spec (ws := w_M_passed) Bd.pre w (List.mem_cons_of_mem _ h)
  have hown : s.vm.findClass R_M = some m.cls := findClass_of_methodNamed Bd.named
  have hlocks := Bd.notSynchronized
  subst hsz
  have hD := hD0.self (sz := s.heap.size)
  generalize hAe : va_A (mW cI cZ ad t n B E C O F L V) s.heap.size = A at hD ⊢
  have hA : ∀ q : Nat, s.heap.size ≤ q → A q := fun q h => by rw [← hAe]; exact Or.inr h
  have hS : va_S A s.heap s.heap [] := va_S.rf
  have hl := lv_entry ([.ref (ad 0), .int p0, .int p1]) (n := 6) (Nat.le_of_ble_eq_true rfl)
  rw [lg_entry_eq]
  generalize (lg_sl ([.ref (ad 0), .int p0, .int p1]) ++ List.replicate (6 - (lg_sl ([.ref (ad 0), .int p0, .int p1])).length) Slot.unset).toArray = ls at hl ⊢
  have hl : lv_has ls 6 [(0, .ref (ad 0)), (1, .int p0), (2, .int p1)] := hl
  have hE : ∀ (pc : Nat) (H : Heap) (locs : List Loc) (ls : Array Slot), va_P (dC, dI) classes (mW cI cZ ad o.2.1 n B E C O o.2.2 L V) H → va_D A (mW cI cZ ad o.2.1 n B E C O o.2.2 L V) → va_S A s.heap H locs → decode b_M_passed pc = .ok (.ireturn, 1) → W p l e (headSpec w_M_passed rm_M_passed).room s m ([.ref (ad 0), .int p0, .int p1] : List Value).toArray below meth c H locs 0 0 (MQ below (mW_Qi dC dI cI cZ ad A o.2.1 n B E C O o.2.2 L V o.1) ([.ref (ad 0), .int p0, .int p1] : List Value).toArray s 0 0 A) (F0 m pc ls [.int o.1]) := fun pc H locs ls hP hD hS hd => W.iret (v := o.1) hx hb hr (fun t ht hW => ⟨⟨o.1, (), rfl, rfl, by rw [ht]; exact hP, va_K.moved hW.alike hK, hD⟩, hS.F ht⟩) hS.2.2 hd
  unfold f_M_passed at hf
  refine lv_aload_n hx hb d_M_passed_0 rfl (lv_at hl 0 rfl) ?_
  refine lv_iload_n hx hb d_M_passed_1 rfl (lv_at hl 1 rfl) ?_
  obtain ⟨o1, hco1, hf⟩ := fg_ob_some hf
  refine fg_r0 (W.runS (As := [.int p0]) (rest := [.ref (ad 0)]) ⟨hx, hb, hml, hown, hts⟩ (c_M_isNode l p0 o1 hco1) (cwS 1 hts gs_M_43 rfl rfl rfl (by decide +kernel) ⟨Nat.le_of_ble_eq_true rfl, Nat.le_of_ble_eq_true rfl⟩) preEq rfl rfl hl.1 rfl (lv_room (Nat.le_of_ble_eq_true rfl)) d_M_passed_2 ⟨Nat.le_of_ble_eq_true rfl, Nat.le_of_ble_eq_true rfl⟩) ?_
  refine lv_if_eq (tgt := 15) hx hb d_M_passed_5 (by decide) (fun hc => ?_) (fun hc => ?_)
  · rw [if_pos hc] at hf
    refine lv_iconst (v := 1) hx hb d_M_passed_15 (by decide) ?_
    refine lv_goto (tgt := 20) hx hb d_M_passed_16 (by decide) ?_
    refine lv_iconst (v := 0) hx hb d_M_passed_20 (by decide) ?_
    obtain ⟨o2, hco2, hf⟩ := fg_ob_some hf
    refine fgM_i (va_runV (As := [.int 1, .int 0]) (rest := []) ⟨hx, hb, hml, hown, hts⟩ (c_M_refuse l dC dI cI cZ ad _ t n B E C O F L V 1 0 o2 hco2) (cwV 2 hts gv_M_47 rfl rfl rfl (by decide +kernel) ⟨Nat.le_of_ble_eq_true rfl, Nat.le_of_ble_eq_true rfl⟩) (mW_pre hK hP hD) rfl rfl hl.1 rfl (lv_room (Nat.le_of_ble_eq_true rfl)) d_M_passed_21 ⟨Nat.le_of_ble_eq_true rfl, Nat.le_of_ble_eq_true rfl⟩) hP hD hS hA (fun H locs hP hD hS => ?_)
    refine lv_if_eq (tgt := 29) hx hb d_M_passed_24 (by decide) (fun hc => ?_) (fun hc => ?_)
    · rw [if_pos hc] at hf
      refine lv_aload_n hx hb d_M_passed_29 rfl (lv_at hl 0 rfl) ?_
      refine lv_iload_n hx hb d_M_passed_30 rfl (lv_at hl 2 rfl) ?_
      refine lv_iconst (v := (-1)) hx hb d_M_passed_31 (by decide) ?_
      obtain ⟨o3, hco3, hf⟩ := fg_ob_some hf
      refine fgM_v (va_runV (As := [.int p1, .int (-1)]) (rest := []) ⟨hx, hb, hml, hown, hts⟩ (c_M_measure l dC dI cI cZ ad _ o2.2 n B E C O F L V p1 (-1) o3 hco3) (cwV 2 hts gv_M_51 rfl rfl rfl (by decide +kernel) ⟨Nat.le_of_ble_eq_true rfl, Nat.le_of_ble_eq_true rfl⟩) (mW_pre hK hP hD) rfl rfl hl.1 rfl (lv_room (Nat.le_of_ble_eq_true rfl)) d_M_passed_32 ⟨Nat.le_of_ble_eq_true rfl, Nat.le_of_ble_eq_true rfl⟩) hP hD hS hA (fun H locs hP hD hS => ?_)
      refine lv_iconst (v := 0) hx hb d_M_passed_35 (by decide) ?_
      refine lv_istore_n (lv' := [(3, .int 0), (0, .ref (ad 0)), (1, .int p0), (2, .int p1)]) hx hb d_M_passed_36 rfl hl (by decide) rfl (fun ls hl => ?_)
      refine lv_aload_n hx hb d_M_passed_37 rfl (lv_at hl 1 rfl) ?_
      refine va_get (D := (dC, dI)) (ci := 1) (v := .ref (ad 5)) (C := R_M) (T := F_M) (N := 9) hx hb hts i_M hown hK hP 0 rfl rfl 6 (by decide) (hts _ fl_M_23) (fun _ h9 => h9) rfl d_M_passed_38 ?_
      refine lv_iload_n hx hb d_M_passed_41 rfl (lv_at hl 2 rfl) ?_
      obtain ⟨hi, hf⟩ := fg_og_some hf
      refine va_iald hx hb hK hP 5 0 rfl rfl (ix_in hi) d_M_passed_42 ?_
      refine lv_if_lt (tgt := 50) hx hb d_M_passed_43 (by decide) (fun hc => ?_) (fun hc => ?_)
      · rw [if_pos hc] at hf
        refine lv_iconst (v := 0) hx hb d_M_passed_50 (by decide) ?_
        refine lv_istore (lv' := [(4, .int 0), (3, .int 0), (0, .ref (ad 0)), (1, .int p0), (2, .int p1)]) hx hb d_M_passed_51 hl (by decide) rfl (fun ls hl => ?_)
        refine lv_iconst (v := 0) hx hb d_M_passed_53 (by decide) ?_
        refine lv_istore (lv' := [(5, .int 0), (4, .int 0), (3, .int 0), (0, .ref (ad 0)), (1, .int p0), (2, .int p1)]) hx hb d_M_passed_54 hl (by decide) rfl (fun ls hl => ?_)
        obtain ⟨o4, hco4, hf⟩ := fg_ob_some hf
        refine w_M_passed_56 hx hb hml hown hts hK hA p0 p1 0 o2.2 n B E C O L V fu 0 0 o3 o4 hco4 _ _ _ hP hD hS (lv_sub hl [3, 4, 5, 2, 1, 0] rfl) (fun H locs ls hP hD hS hl => ?_)
        refine lv_iload_n hx hb d_M_passed_113 rfl (lv_at hl 0 rfl) ?_
        cases hf
        exact hE _ _ _ _ hP hD hS d_M_passed_114
      · rw [if_neg hc] at hf
        refine lv_iconst (v := 1) hx hb d_M_passed_46 (by decide) ?_
        refine lv_goto (tgt := 51) hx hb d_M_passed_47 (by decide) ?_
        refine lv_istore (lv' := [(4, .int 1), (3, .int 0), (0, .ref (ad 0)), (1, .int p0), (2, .int p1)]) hx hb d_M_passed_51 hl (by decide) rfl (fun ls hl => ?_)
        refine lv_iconst (v := 0) hx hb d_M_passed_53 (by decide) ?_
        refine lv_istore (lv' := [(5, .int 0), (4, .int 1), (3, .int 0), (0, .ref (ad 0)), (1, .int p0), (2, .int p1)]) hx hb d_M_passed_54 hl (by decide) rfl (fun ls hl => ?_)
        obtain ⟨o5, hco5, hf⟩ := fg_ob_some hf
        refine w_M_passed_56 hx hb hml hown hts hK hA p0 p1 1 o2.2 n B E C O L V fu 0 0 o3 o5 hco5 _ _ _ hP hD hS (lv_sub hl [3, 4, 5, 2, 1, 0] rfl) (fun H locs ls hP hD hS hl => ?_)
        refine lv_iload_n hx hb d_M_passed_113 rfl (lv_at hl 0 rfl) ?_
        cases hf
        exact hE _ _ _ _ hP hD hS d_M_passed_114
    · rw [if_neg hc] at hf
      refine lv_iconst (v := 0) hx hb d_M_passed_27 (by decide) ?_
      cases hf
      exact hE _ _ _ _ hP hD hS d_M_passed_28
  · rw [if_neg hc] at hf
    refine lv_iload_n hx hb d_M_passed_8 rfl (lv_at hl 2 rfl) ?_
    obtain ⟨o6, hco6, hf⟩ := fg_ob_some hf
    refine fg_r0 (W.runS (As := [.int p1]) (rest := [.ref (ad 0)]) ⟨hx, hb, hml, hown, hts⟩ (c_M_isNode l p1 o6 hco6) (cwS 1 hts gs_M_43 rfl rfl rfl (by decide +kernel) ⟨Nat.le_of_ble_eq_true rfl, Nat.le_of_ble_eq_true rfl⟩) preEq rfl rfl hl.1 rfl (lv_room (Nat.le_of_ble_eq_true rfl)) d_M_passed_9 ⟨Nat.le_of_ble_eq_true rfl, Nat.le_of_ble_eq_true rfl⟩) ?_
    refine lv_if_ne (tgt := 19) hx hb d_M_passed_12 (by decide) (fun hc => ?_) (fun hc => ?_)
    · rw [if_neg hc] at hf
      refine lv_iconst (v := 0) hx hb d_M_passed_19 (by decide) ?_
      refine lv_iconst (v := 0) hx hb d_M_passed_20 (by decide) ?_
      obtain ⟨o7, hco7, hf⟩ := fg_ob_some hf
      refine fgM_i (va_runV (As := [.int 0, .int 0]) (rest := []) ⟨hx, hb, hml, hown, hts⟩ (c_M_refuse l dC dI cI cZ ad _ t n B E C O F L V 0 0 o7 hco7) (cwV 2 hts gv_M_47 rfl rfl rfl (by decide +kernel) ⟨Nat.le_of_ble_eq_true rfl, Nat.le_of_ble_eq_true rfl⟩) (mW_pre hK hP hD) rfl rfl hl.1 rfl (lv_room (Nat.le_of_ble_eq_true rfl)) d_M_passed_21 ⟨Nat.le_of_ble_eq_true rfl, Nat.le_of_ble_eq_true rfl⟩) hP hD hS hA (fun H locs hP hD hS => ?_)
      refine lv_if_eq (tgt := 29) hx hb d_M_passed_24 (by decide) (fun hc => ?_) (fun hc => ?_)
      · rw [if_pos hc] at hf
        refine lv_aload_n hx hb d_M_passed_29 rfl (lv_at hl 0 rfl) ?_
        refine lv_iload_n hx hb d_M_passed_30 rfl (lv_at hl 2 rfl) ?_
        refine lv_iconst (v := (-1)) hx hb d_M_passed_31 (by decide) ?_
        obtain ⟨o8, hco8, hf⟩ := fg_ob_some hf
        refine fgM_v (va_runV (As := [.int p1, .int (-1)]) (rest := []) ⟨hx, hb, hml, hown, hts⟩ (c_M_measure l dC dI cI cZ ad _ o7.2 n B E C O F L V p1 (-1) o8 hco8) (cwV 2 hts gv_M_51 rfl rfl rfl (by decide +kernel) ⟨Nat.le_of_ble_eq_true rfl, Nat.le_of_ble_eq_true rfl⟩) (mW_pre hK hP hD) rfl rfl hl.1 rfl (lv_room (Nat.le_of_ble_eq_true rfl)) d_M_passed_32 ⟨Nat.le_of_ble_eq_true rfl, Nat.le_of_ble_eq_true rfl⟩) hP hD hS hA (fun H locs hP hD hS => ?_)
        refine lv_iconst (v := 0) hx hb d_M_passed_35 (by decide) ?_
        refine lv_istore_n (lv' := [(3, .int 0), (0, .ref (ad 0)), (1, .int p0), (2, .int p1)]) hx hb d_M_passed_36 rfl hl (by decide) rfl (fun ls hl => ?_)
        refine lv_aload_n hx hb d_M_passed_37 rfl (lv_at hl 1 rfl) ?_
        refine va_get (D := (dC, dI)) (ci := 1) (v := .ref (ad 5)) (C := R_M) (T := F_M) (N := 9) hx hb hts i_M hown hK hP 0 rfl rfl 6 (by decide) (hts _ fl_M_23) (fun _ h9 => h9) rfl d_M_passed_38 ?_
        refine lv_iload_n hx hb d_M_passed_41 rfl (lv_at hl 2 rfl) ?_
        obtain ⟨hi, hf⟩ := fg_og_some hf
        refine va_iald hx hb hK hP 5 0 rfl rfl (ix_in hi) d_M_passed_42 ?_
        refine lv_if_lt (tgt := 50) hx hb d_M_passed_43 (by decide) (fun hc => ?_) (fun hc => ?_)
        · rw [if_pos hc] at hf
          refine lv_iconst (v := 0) hx hb d_M_passed_50 (by decide) ?_
          refine lv_istore (lv' := [(4, .int 0), (3, .int 0), (0, .ref (ad 0)), (1, .int p0), (2, .int p1)]) hx hb d_M_passed_51 hl (by decide) rfl (fun ls hl => ?_)
          refine lv_iconst (v := 0) hx hb d_M_passed_53 (by decide) ?_
          refine lv_istore (lv' := [(5, .int 0), (4, .int 0), (3, .int 0), (0, .ref (ad 0)), (1, .int p0), (2, .int p1)]) hx hb d_M_passed_54 hl (by decide) rfl (fun ls hl => ?_)
          obtain ⟨o9, hco9, hf⟩ := fg_ob_some hf
          refine w_M_passed_56 hx hb hml hown hts hK hA p0 p1 0 o7.2 n B E C O L V fu 0 0 o8 o9 hco9 _ _ _ hP hD hS (lv_sub hl [3, 4, 5, 2, 1, 0] rfl) (fun H locs ls hP hD hS hl => ?_)
          refine lv_iload_n hx hb d_M_passed_113 rfl (lv_at hl 0 rfl) ?_
          cases hf
          exact hE _ _ _ _ hP hD hS d_M_passed_114
        · rw [if_neg hc] at hf
          refine lv_iconst (v := 1) hx hb d_M_passed_46 (by decide) ?_
          refine lv_goto (tgt := 51) hx hb d_M_passed_47 (by decide) ?_
          refine lv_istore (lv' := [(4, .int 1), (3, .int 0), (0, .ref (ad 0)), (1, .int p0), (2, .int p1)]) hx hb d_M_passed_51 hl (by decide) rfl (fun ls hl => ?_)
          refine lv_iconst (v := 0) hx hb d_M_passed_53 (by decide) ?_
          refine lv_istore (lv' := [(5, .int 0), (4, .int 1), (3, .int 0), (0, .ref (ad 0)), (1, .int p0), (2, .int p1)]) hx hb d_M_passed_54 hl (by decide) rfl (fun ls hl => ?_)
          obtain ⟨o10, hco10, hf⟩ := fg_ob_some hf
          refine w_M_passed_56 hx hb hml hown hts hK hA p0 p1 1 o7.2 n B E C O L V fu 0 0 o8 o10 hco10 _ _ _ hP hD hS (lv_sub hl [3, 4, 5, 2, 1, 0] rfl) (fun H locs ls hP hD hS hl => ?_)
          refine lv_iload_n hx hb d_M_passed_113 rfl (lv_at hl 0 rfl) ?_
          cases hf
          exact hE _ _ _ _ hP hD hS d_M_passed_114
      · rw [if_neg hc] at hf
        refine lv_iconst (v := 0) hx hb d_M_passed_27 (by decide) ?_
        cases hf
        exact hE _ _ _ _ hP hD hS d_M_passed_28
    · rw [if_pos hc] at hf
      refine lv_iconst (v := 1) hx hb d_M_passed_15 (by decide) ?_
      refine lv_goto (tgt := 20) hx hb d_M_passed_16 (by decide) ?_
      refine lv_iconst (v := 0) hx hb d_M_passed_20 (by decide) ?_
      obtain ⟨o11, hco11, hf⟩ := fg_ob_some hf
      refine fgM_i (va_runV (As := [.int 1, .int 0]) (rest := []) ⟨hx, hb, hml, hown, hts⟩ (c_M_refuse l dC dI cI cZ ad _ t n B E C O F L V 1 0 o11 hco11) (cwV 2 hts gv_M_47 rfl rfl rfl (by decide +kernel) ⟨Nat.le_of_ble_eq_true rfl, Nat.le_of_ble_eq_true rfl⟩) (mW_pre hK hP hD) rfl rfl hl.1 rfl (lv_room (Nat.le_of_ble_eq_true rfl)) d_M_passed_21 ⟨Nat.le_of_ble_eq_true rfl, Nat.le_of_ble_eq_true rfl⟩) hP hD hS hA (fun H locs hP hD hS => ?_)
      refine lv_if_eq (tgt := 29) hx hb d_M_passed_24 (by decide) (fun hc => ?_) (fun hc => ?_)
      · rw [if_pos hc] at hf
        refine lv_aload_n hx hb d_M_passed_29 rfl (lv_at hl 0 rfl) ?_
        refine lv_iload_n hx hb d_M_passed_30 rfl (lv_at hl 2 rfl) ?_
        refine lv_iconst (v := (-1)) hx hb d_M_passed_31 (by decide) ?_
        obtain ⟨o12, hco12, hf⟩ := fg_ob_some hf
        refine fgM_v (va_runV (As := [.int p1, .int (-1)]) (rest := []) ⟨hx, hb, hml, hown, hts⟩ (c_M_measure l dC dI cI cZ ad _ o11.2 n B E C O F L V p1 (-1) o12 hco12) (cwV 2 hts gv_M_51 rfl rfl rfl (by decide +kernel) ⟨Nat.le_of_ble_eq_true rfl, Nat.le_of_ble_eq_true rfl⟩) (mW_pre hK hP hD) rfl rfl hl.1 rfl (lv_room (Nat.le_of_ble_eq_true rfl)) d_M_passed_32 ⟨Nat.le_of_ble_eq_true rfl, Nat.le_of_ble_eq_true rfl⟩) hP hD hS hA (fun H locs hP hD hS => ?_)
        refine lv_iconst (v := 0) hx hb d_M_passed_35 (by decide) ?_
        refine lv_istore_n (lv' := [(3, .int 0), (0, .ref (ad 0)), (1, .int p0), (2, .int p1)]) hx hb d_M_passed_36 rfl hl (by decide) rfl (fun ls hl => ?_)
        refine lv_aload_n hx hb d_M_passed_37 rfl (lv_at hl 1 rfl) ?_
        refine va_get (D := (dC, dI)) (ci := 1) (v := .ref (ad 5)) (C := R_M) (T := F_M) (N := 9) hx hb hts i_M hown hK hP 0 rfl rfl 6 (by decide) (hts _ fl_M_23) (fun _ h9 => h9) rfl d_M_passed_38 ?_
        refine lv_iload_n hx hb d_M_passed_41 rfl (lv_at hl 2 rfl) ?_
        obtain ⟨hi, hf⟩ := fg_og_some hf
        refine va_iald hx hb hK hP 5 0 rfl rfl (ix_in hi) d_M_passed_42 ?_
        refine lv_if_lt (tgt := 50) hx hb d_M_passed_43 (by decide) (fun hc => ?_) (fun hc => ?_)
        · rw [if_pos hc] at hf
          refine lv_iconst (v := 0) hx hb d_M_passed_50 (by decide) ?_
          refine lv_istore (lv' := [(4, .int 0), (3, .int 0), (0, .ref (ad 0)), (1, .int p0), (2, .int p1)]) hx hb d_M_passed_51 hl (by decide) rfl (fun ls hl => ?_)
          refine lv_iconst (v := 0) hx hb d_M_passed_53 (by decide) ?_
          refine lv_istore (lv' := [(5, .int 0), (4, .int 0), (3, .int 0), (0, .ref (ad 0)), (1, .int p0), (2, .int p1)]) hx hb d_M_passed_54 hl (by decide) rfl (fun ls hl => ?_)
          obtain ⟨o13, hco13, hf⟩ := fg_ob_some hf
          refine w_M_passed_56 hx hb hml hown hts hK hA p0 p1 0 o11.2 n B E C O L V fu 0 0 o12 o13 hco13 _ _ _ hP hD hS (lv_sub hl [3, 4, 5, 2, 1, 0] rfl) (fun H locs ls hP hD hS hl => ?_)
          refine lv_iload_n hx hb d_M_passed_113 rfl (lv_at hl 0 rfl) ?_
          cases hf
          exact hE _ _ _ _ hP hD hS d_M_passed_114
        · rw [if_neg hc] at hf
          refine lv_iconst (v := 1) hx hb d_M_passed_46 (by decide) ?_
          refine lv_goto (tgt := 51) hx hb d_M_passed_47 (by decide) ?_
          refine lv_istore (lv' := [(4, .int 1), (3, .int 0), (0, .ref (ad 0)), (1, .int p0), (2, .int p1)]) hx hb d_M_passed_51 hl (by decide) rfl (fun ls hl => ?_)
          refine lv_iconst (v := 0) hx hb d_M_passed_53 (by decide) ?_
          refine lv_istore (lv' := [(5, .int 0), (4, .int 1), (3, .int 0), (0, .ref (ad 0)), (1, .int p0), (2, .int p1)]) hx hb d_M_passed_54 hl (by decide) rfl (fun ls hl => ?_)
          obtain ⟨o14, hco14, hf⟩ := fg_ob_some hf
          refine w_M_passed_56 hx hb hml hown hts hK hA p0 p1 1 o11.2 n B E C O L V fu 0 0 o12 o14 hco14 _ _ _ hP hD hS (lv_sub hl [3, 4, 5, 2, 1, 0] rfl) (fun H locs ls hP hD hS hl => ?_)
          refine lv_iload_n hx hb d_M_passed_113 rfl (lv_at hl 0 rfl) ?_
          cases hf
          exact hE _ _ _ _ hP hD hS d_M_passed_114
      · rw [if_neg hc] at hf
        refine lv_iconst (v := 0) hx hb d_M_passed_27 (by decide) ?_
        cases hf
        exact hE _ _ _ _ hP hD hS d_M_passed_28
