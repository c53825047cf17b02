set_option maxHeartbeats 4000000 in
set_option maxRecDepth 100000 in
theorem w_M_push_2 {p : Program} {l : Launch} {e : Env} {s : State} {m : MethodId} {args : Array Value} {below : List Frame} {meth : Method} {c : Code} {Q : State → Prop} {A : Nat → Prop} {dC : Nat → ClassId} {dI : Nat → Nat → Nat} {cI cZ : ClassId} {ad : Nat → Nat} (hx : p.tables.exec = Jvm.exec) (hb : c.code = b_M_push) (hml : c.maxLocals = 6) (hown : s.vm.findClass R_M = some m.cls) (hts : ∀ w ∈ gw, w.before args s = true) (hK : va_K (dC, dI) classes (gT cI cZ) s) (hA : ∀ q : Nat, s.heap.size ≤ q → A q) (x1 : Int32) (t : Int32) (n : Int32) (B : fg_A) (E : fg_A) (C : fg_A) (O : fg_A) (F : fg_A) (V : fg_A) :
    ∀ (k : Nat) (x3 : Int32) (L : fg_A) (o : fg_A), f_M_push_2 B E V x1 k x3 L = some o → ∀ (H : Heap) (locs : List Loc) (ls : Array Slot), va_P (dC, dI) classes (mW cI cZ ad t n B E C O F L V) H → va_D A (mW cI cZ ad t n B E C O F L V) → va_S A s.heap H locs → lv_has ls 6 [(0, .ref (ad 0)), (1, .int x1), (3, .int x3)] →
    (∀ (H : Heap) (locs : List Loc) (ls : Array Slot), va_P (dC, dI) classes (mW cI cZ ad t n B E C O F o V) H → va_D A (mW cI cZ ad t n B E C O F o V) → va_S A s.heap H locs → lv_has ls 6 [] → W p l e (headSpec w_M_push rm_M_push).room s m args below meth c H locs 0 0 Q (F0 m 97 ls [])) → W p l e (headSpec w_M_push rm_M_push).room s m args below meth c H locs 0 0 Q (F0 m 2 ls []) := by
  intro k
  induction k with
  | zero =>
    intro x3 L o hf
    exact absurd (show none = some o from hf) (by simp)
  | succ k ih =>
    intro x3 L o hf H locs ls hP hD hS hl hk
    rw [f_M_push_2] at hf
    refine lv_iload_n hx hb d_M_push_2 rfl (lv_at hl 2 rfl) ?_
    refine lv_iload_n hx hb d_M_push_3 rfl (lv_at hl 1 rfl) ?_
    refine lv_icmp_eq (tgt := 97) hx hb d_M_push_4 (by decide) (fun hc => ?_) (fun hc => ?_)
    · rw [if_pos hc] at hf
      cases hf
      exact hk _ _ _ hP hD hS (lv_sub hl [] rfl)
    · rw [if_neg hc] at hf
      refine lv_aload_n hx hb d_M_push_7 rfl (lv_at hl 0 rfl) ?_
      refine va_get (D := (dC, dI)) (ci := 1) (v := .ref (ad 7)) (C := R_M) (T := F_M) (N := 9) hx hb hts i_M hown hK hP 0 rfl rfl 8 (by decide) (hts _ fl_M_29) (fun _ h9 => h9) rfl d_M_push_8 ?_
      refine lv_iload_n hx hb d_M_push_11 rfl (lv_at hl 2 rfl) ?_
      obtain ⟨hi, hf⟩ := fg_og_some hf
      refine va_iald hx hb hK hP 7 0 rfl rfl (ix_in hi) d_M_push_12 ?_
      refine lv_iconst (v := 2) hx hb d_M_push_13 (by decide) ?_
      refine lv_isub hx hb d_M_push_14 ?_
      refine lv_iconst (v := 2) hx hb d_M_push_15 (by decide) ?_
      refine lv_idiv hx hb d_M_push_16 (by decide) ?_
      refine lv_istore (lv' := [(4, .int (((V x3.toNatClampNeg) - 2) / 2)), (0, .ref (ad 0)), (1, .int x1), (3, .int x3)]) hx hb d_M_push_17 hl (by decide) rfl (fun ls hl => ?_)
      refine lv_aload_n hx hb d_M_push_19 rfl (lv_at hl 1 rfl) ?_
      refine va_get (D := (dC, dI)) (ci := 1) (v := .ref (ad 7)) (C := R_M) (T := F_M) (N := 9) hx hb hts i_M hown hK hP 0 rfl rfl 8 (by decide) (hts _ fl_M_29) (fun _ h9 => h9) rfl d_M_push_20 ?_
      refine lv_iload_n hx hb d_M_push_23 rfl (lv_at hl 3 rfl) ?_
      obtain ⟨hi, hf⟩ := fg_og_some hf
      refine va_iald hx hb hK hP 7 0 rfl rfl (ix_in hi) d_M_push_24 ?_
      refine lv_iconst (v := 2) hx hb d_M_push_25 (by decide) ?_
      refine lv_irem hx hb d_M_push_26 (by decide) ?_
      refine lv_iconst (v := 1) hx hb d_M_push_27 (by decide) ?_
      refine lv_icmp_ne (tgt := 35) hx hb d_M_push_28 (by decide) (fun hc => ?_) (fun hc => ?_)
      · rw [if_neg hc] at hf
        refine lv_iconst (v := 0) hx hb d_M_push_35 (by decide) ?_
        refine lv_istore (lv' := [(5, .int 0), (4, .int (((V x3.toNatClampNeg) - 2) / 2)), (0, .ref (ad 0)), (1, .int x1), (3, .int x3)]) hx hb d_M_push_36 hl (by decide) rfl (fun ls hl => ?_)
        refine lv_aload_n hx hb d_M_push_38 rfl (lv_at hl 2 rfl) ?_
        refine va_get (D := (dC, dI)) (ci := 1) (v := .ref (ad 6)) (C := R_M) (T := F_M) (N := 9) hx hb hts i_M hown hK hP 0 rfl rfl 7 (by decide) (hts _ fl_M_26) (fun _ h9 => h9) rfl d_M_push_39 ?_
        refine lv_iload hx hb d_M_push_42 (lv_at hl 1 rfl) ?_
        refine lv_iload hx hb d_M_push_44 (lv_at hl 0 rfl) ?_
        refine lv_if_eq (tgt := 61) hx hb d_M_push_46 (by decide) (fun hc => ?_) (fun hc => ?_)
        · refine lv_aload_n hx hb d_M_push_61 rfl (lv_at hl 2 rfl) ?_
          refine va_get (D := (dC, dI)) (ci := 1) (v := .ref (ad 6)) (C := R_M) (T := F_M) (N := 9) hx hb hts i_M hown hK hP 0 rfl rfl 7 (by decide) (hts _ fl_M_26) (fun _ h9 => h9) rfl d_M_push_62 ?_
          refine lv_iload hx hb d_M_push_65 (lv_at hl 1 rfl) ?_
          obtain ⟨hi, hf⟩ := fg_og_some hf
          refine va_iald hx hb hK hP 6 0 rfl rfl (ix_in hi) d_M_push_67 ?_
          refine lv_iconst (v := 1) hx hb d_M_push_68 (by decide) ?_
          refine lv_iadd hx hb d_M_push_69 ?_
          obtain ⟨hi, hf⟩ := fg_og_some hf
          refine va_iast hx hb hK hP hD hS 6 0 rfl rfl (ix_in hi) d_M_push_70 (fun H locs hP hD hS => ?_)
          have hP : va_P (dC, dI) classes (mW cI cZ ad t n B E C O F (upd L (((V x3.toNatClampNeg) - 2) / 2).toNatClampNeg ((L (((V x3.toNatClampNeg) - 2) / 2).toNatClampNeg) + 1)) V) H := hP
          have hD : va_D A (mW cI cZ ad t n B E C O F (upd L (((V x3.toNatClampNeg) - 2) / 2).toNatClampNeg ((L (((V x3.toNatClampNeg) - 2) / 2).toNatClampNeg) + 1)) V) := hD
          refine lv_iload hx hb d_M_push_71 (lv_at hl 0 rfl) ?_
          refine lv_if_eq (tgt := 86) hx hb d_M_push_73 (by decide) (fun hc => ?_) (fun hc => ?_)
          · refine lv_aload_n hx hb d_M_push_86 rfl (lv_at hl 2 rfl) ?_
            refine va_get (D := (dC, dI)) (ci := 1) (v := .ref (ad 1)) (C := R_M) (T := F_M) (N := 9) hx hb hts i_M hown hK hP 0 rfl rfl 2 (by decide) (hts _ fl_M_7) (fun _ h9 => h9) rfl d_M_push_87 ?_
            refine lv_iload hx hb d_M_push_90 (lv_at hl 1 rfl) ?_
            obtain ⟨hi, hf⟩ := fg_og_some hf
            refine va_iald hx hb hK hP 1 0 rfl rfl (ix_in hi) d_M_push_92 ?_
            refine lv_istore_n (lv' := [(3, .int (B (((V x3.toNatClampNeg) - 2) / 2).toNatClampNeg)), (5, .int 0), (4, .int (((V x3.toNatClampNeg) - 2) / 2)), (0, .ref (ad 0)), (1, .int x1)]) hx hb d_M_push_93 rfl hl (by decide) rfl (fun ls hl => ?_)
            refine lv_goto (tgt := 2) hx hb d_M_push_94 (by decide) ?_
            exact ih (B (((V x3.toNatClampNeg) - 2) / 2).toNatClampNeg) (upd L (((V x3.toNatClampNeg) - 2) / 2).toNatClampNeg ((L (((V x3.toNatClampNeg) - 2) / 2).toNatClampNeg) + 1)) _ hf _ _ _ hP hD hS (lv_sub hl [3, 4, 0] rfl) hk
          · exact absurd hc (by decide)
        · exact absurd hc (by decide)
      · rw [if_pos hc] at hf
        refine lv_iconst (v := 1) hx hb d_M_push_31 (by decide) ?_
        refine lv_goto (tgt := 36) hx hb d_M_push_32 (by decide) ?_
        refine lv_istore (lv' := [(5, .int 1), (4, .int (((V x3.toNatClampNeg) - 2) / 2)), (0, .ref (ad 0)), (1, .int x1), (3, .int x3)]) hx hb d_M_push_36 hl (by decide) rfl (fun ls hl => ?_)
        refine lv_aload_n hx hb d_M_push_38 rfl (lv_at hl 2 rfl) ?_
        refine va_get (D := (dC, dI)) (ci := 1) (v := .ref (ad 6)) (C := R_M) (T := F_M) (N := 9) hx hb hts i_M hown hK hP 0 rfl rfl 7 (by decide) (hts _ fl_M_26) (fun _ h9 => h9) rfl d_M_push_39 ?_
        refine lv_iload hx hb d_M_push_42 (lv_at hl 1 rfl) ?_
        refine lv_iload hx hb d_M_push_44 (lv_at hl 0 rfl) ?_
        refine lv_if_eq (tgt := 61) hx hb d_M_push_46 (by decide) (fun hc => ?_) (fun hc => ?_)
        · exact absurd hc (by decide)
        · refine lv_aload_n hx hb d_M_push_49 rfl (lv_at hl 2 rfl) ?_
          refine va_get (D := (dC, dI)) (ci := 1) (v := .ref (ad 6)) (C := R_M) (T := F_M) (N := 9) hx hb hts i_M hown hK hP 0 rfl rfl 7 (by decide) (hts _ fl_M_26) (fun _ h9 => h9) rfl d_M_push_50 ?_
          refine lv_iload hx hb d_M_push_53 (lv_at hl 1 rfl) ?_
          obtain ⟨hi, hf⟩ := fg_og_some hf
          refine va_iald hx hb hK hP 6 0 rfl rfl (ix_in hi) d_M_push_55 ?_
          refine lv_iconst (v := 1) hx hb d_M_push_56 (by decide) ?_
          refine lv_isub hx hb d_M_push_57 ?_
          refine lv_goto (tgt := 70) hx hb d_M_push_58 (by decide) ?_
          obtain ⟨hi, hf⟩ := fg_og_some hf
          refine va_iast hx hb hK hP hD hS 6 0 rfl rfl (ix_in hi) d_M_push_70 (fun H locs hP hD hS => ?_)
          have hP : va_P (dC, dI) classes (mW cI cZ ad t n B E C O F (upd L (((V x3.toNatClampNeg) - 2) / 2).toNatClampNeg ((L (((V x3.toNatClampNeg) - 2) / 2).toNatClampNeg) - 1)) V) H := hP
          have hD : va_D A (mW cI cZ ad t n B E C O F (upd L (((V x3.toNatClampNeg) - 2) / 2).toNatClampNeg ((L (((V x3.toNatClampNeg) - 2) / 2).toNatClampNeg) - 1)) V) := hD
          refine lv_iload hx hb d_M_push_71 (lv_at hl 0 rfl) ?_
          refine lv_if_eq (tgt := 86) hx hb d_M_push_73 (by decide) (fun hc => ?_) (fun hc => ?_)
          · exact absurd hc (by decide)
          · refine lv_aload_n hx hb d_M_push_76 rfl (lv_at hl 2 rfl) ?_
            refine va_get (D := (dC, dI)) (ci := 1) (v := .ref (ad 2)) (C := R_M) (T := F_M) (N := 9) hx hb hts i_M hown hK hP 0 rfl rfl 3 (by decide) (hts _ fl_M_13) (fun _ h9 => h9) rfl d_M_push_77 ?_
            refine lv_iload hx hb d_M_push_80 (lv_at hl 1 rfl) ?_
            obtain ⟨hi, hf⟩ := fg_og_some hf
            refine va_iald hx hb hK hP 2 0 rfl rfl (ix_in hi) d_M_push_82 ?_
            refine lv_goto (tgt := 93) hx hb d_M_push_83 (by decide) ?_
            refine lv_istore_n (lv' := [(3, .int (E (((V x3.toNatClampNeg) - 2) / 2).toNatClampNeg)), (5, .int 1), (4, .int (((V x3.toNatClampNeg) - 2) / 2)), (0, .ref (ad 0)), (1, .int x1)]) hx hb d_M_push_93 rfl hl (by decide) rfl (fun ls hl => ?_)
            refine lv_goto (tgt := 2) hx hb d_M_push_94 (by decide) ?_
            exact ih (E (((V x3.toNatClampNeg) - 2) / 2).toNatClampNeg) (upd L (((V x3.toNatClampNeg) - 2) / 2).toNatClampNeg ((L (((V x3.toNatClampNeg) - 2) / 2).toNatClampNeg) - 1)) _ hf _ _ _ hP hD hS (lv_sub hl [3, 4, 0] rfl) hk
set_option maxHeartbeats 4000000 in
set_option maxRecDepth 100000 in
theorem c_M_push (l : Launch) (dC : Nat → ClassId) (dI : Nat → Nat → Nat) (cI cZ : ClassId) (ad : Nat → Nat) (sz : Nat) (t : Int32) (n : Int32) (B : fg_A) (E : fg_A) (C : fg_A) (O : fg_A) (F : fg_A) (L : fg_A) (V : fg_A) (p0 : Int32) (p1 : Int32) (o : fg_A) (hf : f_M_push B E L V p0 p1 = some o) : Met l y_M_push w_M_push rm_M_push (mW_Pc dC dI cI cZ ad sz t n B E C O F L V [.ref (ad 0), .int p0, .int p1]) (mW_Qv dC dI cI cZ ad (va_A (mW cI cZ ad t n B E C O F L V) sz) t n B E C O F o V) 0 0 (va_A (mW cI cZ ad t n B E C O F L V) sz) := by
  refine Met.ofW (cc := b_M_push) (maxL := 6) (ret := none) (by decide) rfl ?_
  intro p e s m args below meth c s₁ Bd hml hv
  obtain ⟨rfl, hsz, hP, hK, hD0⟩ := hv
  have hx := Bd.exec
  have hb := Bd.bytes
  have hr := Bd.returns
  have hts := fun w h => atoms_spec (ws := w_M_push) Bd.pre w (List.mem_cons_of_mem _ h)
  have hown : s.vm.findClass R_M = some m.cls := findClass_of_methodNamed Bd.named
  have hlocks := Bd.notSynchronized
  subst hsz
  have hD := hD0.self (sz := s.heap.size)
  generalize hAe : va_A (mW cI cZ ad t n B E C O F L V) s.heap.size = A at hD ⊢
  have hA : ∀ q : Nat, s.heap.size ≤ q → A q := fun q h => by rw [← hAe]; exact Or.inr h
  have hS : va_S A s.heap s.heap [] := va_S.rf
  have hl := lv_entry ([.ref (ad 0), .int p0, .int p1]) (n := 6) (Nat.le_of_ble_eq_true rfl)
  rw [lg_entry_eq]
  generalize (lg_sl ([.ref (ad 0), .int p0, .int p1]) ++ List.replicate (6 - (lg_sl ([.ref (ad 0), .int p0, .int p1])).length) Slot.unset).toArray = ls at hl ⊢
  have hl : lv_has ls 6 [(0, .ref (ad 0)), (1, .int p0), (2, .int p1)] := hl
  have hE : ∀ (pc : Nat) (H : Heap) (locs : List Loc) (ls : Array Slot), va_P (dC, dI) classes (mW cI cZ ad t n B E C O F o V) H → va_D A (mW cI cZ ad t n B E C O F o V) → va_S A s.heap H locs → decode b_M_push pc = .ok (.return_, 1) → W p l e (headSpec w_M_push rm_M_push).room s m ([.ref (ad 0), .int p0, .int p1] : List Value).toArray below meth c H locs 0 0 (MQ below (mW_Qv dC dI cI cZ ad A t n B E C O F o V) ([.ref (ad 0), .int p0, .int p1] : List Value).toArray s 0 0 A) (F0 m pc ls []) := fun pc H locs ls hP hD hS hd => W.vret hx hb hr (fun t ht hW => ⟨⟨(), rfl, trivial, by rw [ht]; exact hP, va_K.moved hW.alike hK, hD⟩, hS.F ht⟩) hS.2.2 hd
  unfold f_M_push at hf
  refine lv_iload_n hx hb d_M_push_0 rfl (lv_at hl 2 rfl) ?_
  refine lv_istore_n (lv' := [(3, .int p1), (0, .ref (ad 0)), (1, .int p0), (2, .int p1)]) hx hb d_M_push_1 rfl hl (by decide) rfl (fun ls hl => ?_)
  obtain ⟨o1, hco1, hf⟩ := fg_ob_some hf
  refine w_M_push_2 hx hb hml hown hts hK hA p0 t n B E C O F V fu p1 L o1 hco1 _ _ _ hP hD hS (lv_sub hl [1, 2, 0] rfl) (fun H locs ls hP hD hS hl => ?_)
  cases hf
  exact hE _ _ _ _ hP hD hS d_M_push_97
set_option maxHeartbeats 4000000 in
set_option maxRecDepth 100000 in
theorem c_M_isNode (l : Launch) (p0 : Int32) (o : Int32) (hf : f_M_isNode p0 = some o) : Met l y_M_isNode w_M_isNode rm_M_isNode (fun v _ => v = ([.int p0] : List Value).toArray) (QcRead o) 0 0 (fun _ => False) := by
  refine Met.ofW (cc := b_M_isNode) (maxL := 1) (ret := (some .boolean)) (by decide) rfl ?_
  intro p e s m args below meth c s₁ Bd hml hv
  obtain rfl := hv
  have hx := Bd.exec
  have hb := Bd.bytes
  have hr := Bd.returns
  have hts := fun w h => atoms_spec (ws := w_M_isNode) Bd.pre w (List.mem_cons_of_mem _ h)
  have hown : s.vm.findClass R_M = some m.cls := findClass_of_methodNamed Bd.named
  have hlocks := Bd.notSynchronized
  have hl := lv_entry ([.int p0]) (n := 1) (Nat.le_of_ble_eq_true rfl)
  rw [lg_entry_eq]
  generalize (lg_sl ([.int p0]) ++ List.replicate (1 - (lg_sl ([.int p0])).length) Slot.unset).toArray = ls at hl ⊢
  have hl : lv_has ls 1 [(0, .int p0)] := hl
  unfold f_M_isNode at hf
  refine lv_iload_n hx hb d_M_isNode_0 rfl (lv_at hl 0 rfl) ?_
  refine lv_iconst (v := 0) hx hb d_M_isNode_1 (by decide) ?_
  refine lv_bipush (v := 27) hx hb d_M_isNode_2 (by decide) ?_
  obtain ⟨o1, hco1, hf⟩ := fg_ob_some hf
  refine fg_r0 (W.runS (As := [.int p0, .int 0, .int 27]) (rest := []) ⟨hx, hb, hml, hown, hts⟩ (c_M_in l p0 0 27 o1 hco1) (cwS 3 hts gs_M_36 rfl rfl rfl (by decide +kernel) ⟨Nat.le_of_ble_eq_true rfl, Nat.le_of_ble_eq_true rfl⟩) preEq rfl rfl hl.1 rfl (lv_room (Nat.le_of_ble_eq_true rfl)) d_M_isNode_4 ⟨Nat.le_of_ble_eq_true rfl, Nat.le_of_ble_eq_true rfl⟩) ?_
  obtain ⟨hn, hf⟩ := fg_og_some hf
  cases hf
  exact W.zret hx hb hr (nb_narrow hn) (fun t ht hW => ⟨rfl, ht⟩) (fun q h => by cases h) d_M_isNode_7
set_option maxHeartbeats 4000000 in
set_option maxRecDepth 100000 in
theorem c_M_turn (l : Launch) (dC : Nat → ClassId) (dI : Nat → Nat → Nat) (cI cZ : ClassId) (ad : Nat → Nat) (sz : Nat) (t : Int32) (n : Int32) (B : fg_A) (E : fg_A) (C : fg_A) (O : fg_A) (F : fg_A) (L : fg_A) (V : fg_A) (p0 : Int32) (p1 : Int32) (o : Int32 × Int32 × fg_A) (hf : f_M_turn t n O p0 p1 = some o) : Met l y_M_turn w_M_turn rm_M_turn (mW_Pc dC dI cI cZ ad sz t n B E C O F L V [.ref (ad 0), .int p0, .int p1]) (mW_Qi dC dI cI cZ ad (va_A (mW cI cZ ad t n B E C O F L V) sz) o.2.1 n B E C o.2.2 F L V o.1) 0 0 (va_A (mW cI cZ ad t n B E C O F L V) sz) := by
  refine Met.ofW (cc := b_M_turn) (maxL := 4) (ret := (some .boolean)) (by decide) rfl ?_
  intro p e s m args below meth c s₁ Bd hml hv
  obtain ⟨rfl, hsz, hP, hK, hD0⟩ := hv
  have hx := Bd.exec
  have hb := Bd.bytes
  have hr := Bd.returns
  have hts := fun w h => atoms_spec (ws := w_M_turn) Bd.pre w (List.mem_cons_of_mem _ h)
  have hown : s.vm.findClass R_M = some m.cls := findClass_of_methodNamed Bd.named
  have hlocks := Bd.notSynchronized
  subst hsz
  have hD := hD0.self (sz := s.heap.size)
  generalize hAe : va_A (mW cI cZ ad t n B E C O F L V) s.heap.size = A at hD ⊢
  have hA : ∀ q : Nat, s.heap.size ≤ q → A q := fun q h => by rw [← hAe]; exact Or.inr h
  have hS : va_S A s.heap s.heap [] := va_S.rf
  have hl := lv_entry ([.ref (ad 0), .int p0, .int p1]) (n := 4) (Nat.le_of_ble_eq_true rfl)
  rw [lg_entry_eq]
  generalize (lg_sl ([.ref (ad 0), .int p0, .int p1]) ++ List.replicate (4 - (lg_sl ([.ref (ad 0), .int p0, .int p1])).length) Slot.unset).toArray = ls at hl ⊢
  have hl : lv_has ls 4 [(0, .ref (ad 0)), (1, .int p0), (2, .int p1)] := hl
  have hE : ∀ (pc : Nat) (H : Heap) (locs : List Loc) (ls : Array Slot), va_P (dC, dI) classes (mW cI cZ ad o.2.1 n B E C o.2.2 F L V) H → va_D A (mW cI cZ ad o.2.1 n B E C o.2.2 F L V) → va_S A s.heap H locs → narrow .boolean (.int o.1) = .int o.1 → decode b_M_turn pc = .ok (.ireturn, 1) → W p l e (headSpec w_M_turn rm_M_turn).room s m ([.ref (ad 0), .int p0, .int p1] : List Value).toArray below meth c H locs 0 0 (MQ below (mW_Qi dC dI cI cZ ad A o.2.1 n B E C o.2.2 F L V o.1) ([.ref (ad 0), .int p0, .int p1] : List Value).toArray s 0 0 A) (F0 m pc ls [.int o.1]) := fun pc H locs ls hP hD hS hn hd => W.zret (v := o.1) hx hb hr hn (fun t ht hW => ⟨⟨o.1, (), rfl, rfl, by rw [ht]; exact hP, va_K.moved hW.alike hK, hD⟩, hS.F ht⟩) hS.2.2 hd
  unfold f_M_turn at hf
  refine lv_aload_n hx hb d_M_turn_0 rfl (lv_at hl 0 rfl) ?_
  refine lv_iload_n hx hb d_M_turn_1 rfl (lv_at hl 1 rfl) ?_
  refine lv_iconst (v := 0) hx hb d_M_turn_2 (by decide) ?_
  refine lv_aload_n hx hb d_M_turn_3 rfl (lv_at hl 0 rfl) ?_
  refine va_get (D := (dC, dI)) (ci := 1) (v := .int n) (C := R_M) (T := F_M) (N := 9) hx hb hts i_M hown hK hP 0 rfl rfl 1 (by decide) (hts _ fl_M_40) (fun _ h9 => h9) rfl d_M_turn_4 ?_
  refine lv_iconst (v := 1) hx hb d_M_turn_7 (by decide) ?_
  refine lv_isub hx hb d_M_turn_8 ?_
  obtain ⟨o1, hco1, hf⟩ := fg_ob_some hf
  refine fg_r0 (W.runS (As := [.int p0, .int 0, .int (n - 1)]) (rest := [.ref (ad 0)]) ⟨hx, hb, hml, hown, hts⟩ (c_M_in l p0 0 (n - 1) o1 hco1) (cwS 3 hts gs_M_36 rfl rfl rfl (by decide +kernel) ⟨Nat.le_of_ble_eq_true rfl, Nat.le_of_ble_eq_true rfl⟩) preEq rfl rfl hl.1 rfl (lv_room (Nat.le_of_ble_eq_true rfl)) d_M_turn_9 ⟨Nat.le_of_ble_eq_true rfl, Nat.le_of_ble_eq_true rfl⟩) ?_
  refine lv_if_ne (tgt := 19) hx hb d_M_turn_12 (by decide) (fun hc => ?_) (fun hc => ?_)
  · rw [if_neg hc] at hf
    refine lv_iconst (v := 0) hx hb d_M_turn_19 (by decide) ?_
    refine lv_iconst (v := 0) hx hb d_M_turn_20 (by decide) ?_
    obtain ⟨o2, hco2, hf⟩ := fg_ob_some hf
    refine fgM_i (va_runV (As := [.int 0, .int 0]) (rest := []) ⟨hx, hb, hml, hown, hts⟩ (c_M_refuse l dC dI cI cZ ad _ t n B E C O F L V 0 0 o2 hco2) (cwV 2 hts gv_M_47 rfl rfl rfl (by decide +kernel) ⟨Nat.le_of_ble_eq_true rfl, Nat.le_of_ble_eq_true rfl⟩) (mW_pre hK hP hD) rfl rfl hl.1 rfl (lv_room (Nat.le_of_ble_eq_true rfl)) d_M_turn_21 ⟨Nat.le_of_ble_eq_true rfl, Nat.le_of_ble_eq_true rfl⟩) hP hD hS hA (fun H locs hP hD hS => ?_)
    refine lv_if_eq (tgt := 29) hx hb d_M_turn_24 (by decide) (fun hc => ?_) (fun hc => ?_)
    · rw [if_pos hc] at hf
      refine lv_aload_n hx hb d_M_turn_29 rfl (lv_at hl 0 rfl) ?_
      refine va_get (D := (dC, dI)) (ci := 1) (v := .ref (ad 4)) (C := R_M) (T := F_M) (N := 9) hx hb hts i_M hown hK hP 0 rfl rfl 5 (by decide) (hts _ fl_M_19) (fun _ h9 => h9) rfl d_M_turn_30 ?_
      refine lv_iload_n hx hb d_M_turn_33 rfl (lv_at hl 1 rfl) ?_
      obtain ⟨hi, hf⟩ := fg_og_some hf
      refine va_zald hx hb hK hP 4 1 rfl rfl (ix_in hi) d_M_turn_34 ?_
      refine lv_iload_n hx hb d_M_turn_35 rfl (lv_at hl 2 rfl) ?_
      refine lv_icmp_ne (tgt := 43) hx hb d_M_turn_36 (by decide) (fun hc => ?_) (fun hc => ?_)
      · rw [if_neg hc] at hf
        refine lv_iconst (v := 0) hx hb d_M_turn_43 (by decide) ?_
        refine lv_istore_n (lv' := [(3, .int 0), (0, .ref (ad 0)), (1, .int p0), (2, .int p1)]) hx hb d_M_turn_44 rfl hl (by decide) rfl (fun ls hl => ?_)
        refine lv_aload_n hx hb d_M_turn_45 rfl (lv_at hl 1 rfl) ?_
        refine va_get (D := (dC, dI)) (ci := 1) (v := .ref (ad 4)) (C := R_M) (T := F_M) (N := 9) hx hb hts i_M hown hK hP 0 rfl rfl 5 (by decide) (hts _ fl_M_19) (fun _ h9 => h9) rfl d_M_turn_46 ?_
        refine lv_iload_n hx hb d_M_turn_49 rfl (lv_at hl 2 rfl) ?_
        refine lv_iload_n hx hb d_M_turn_50 rfl (lv_at hl 3 rfl) ?_
        obtain ⟨hi, hf⟩ := fg_og_some hf
        refine va_zast hx hb hK hP hD hS 4 1 rfl rfl (ix_in hi) d_M_turn_51 (fun H locs hP hD hS => ?_)
        have hP : va_P (dC, dI) classes (mW cI cZ ad o2.2 n B E C (upd O p0.toNatClampNeg (vp_nar .boolean p1)) F L V) H := hP
        have hD : va_D A (mW cI cZ ad o2.2 n B E C (upd O p0.toNatClampNeg (vp_nar .boolean p1)) F L V) := hD
        refine lv_iload_n hx hb d_M_turn_52 rfl (lv_at hl 0 rfl) ?_
        cases hf
        exact hE _ _ _ _ hP hD hS (by first | decide | (dsimp only; decide)) d_M_turn_53
      · rw [if_pos hc] at hf
        refine lv_iconst (v := 1) hx hb d_M_turn_39 (by decide) ?_
        refine lv_goto (tgt := 44) hx hb d_M_turn_40 (by decide) ?_
        refine lv_istore_n (lv' := [(3, .int 1), (0, .ref (ad 0)), (1, .int p0), (2, .int p1)]) hx hb d_M_turn_44 rfl hl (by decide) rfl (fun ls hl => ?_)
        refine lv_aload_n hx hb d_M_turn_45 rfl (lv_at hl 1 rfl) ?_
        refine va_get (D := (dC, dI)) (ci := 1) (v := .ref (ad 4)) (C := R_M) (T := F_M) (N := 9) hx hb hts i_M hown hK hP 0 rfl rfl 5 (by decide) (hts _ fl_M_19) (fun _ h9 => h9) rfl d_M_turn_46 ?_
        refine lv_iload_n hx hb d_M_turn_49 rfl (lv_at hl 2 rfl) ?_
        refine lv_iload_n hx hb d_M_turn_50 rfl (lv_at hl 3 rfl) ?_
        obtain ⟨hi, hf⟩ := fg_og_some hf
        refine va_zast hx hb hK hP hD hS 4 1 rfl rfl (ix_in hi) d_M_turn_51 (fun H locs hP hD hS => ?_)
        have hP : va_P (dC, dI) classes (mW cI cZ ad o2.2 n B E C (upd O p0.toNatClampNeg (vp_nar .boolean p1)) F L V) H := hP
        have hD : va_D A (mW cI cZ ad o2.2 n B E C (upd O p0.toNatClampNeg (vp_nar .boolean p1)) F L V) := hD
        refine lv_iload_n hx hb d_M_turn_52 rfl (lv_at hl 0 rfl) ?_
        cases hf
        exact hE _ _ _ _ hP hD hS (by first | decide | (dsimp only; decide)) d_M_turn_53
    · rw [if_neg hc] at hf
      refine lv_iconst (v := 0) hx hb d_M_turn_27 (by decide) ?_
      cases hf
      exact hE _ _ _ _ hP hD hS (by first | decide | (dsimp only; decide)) d_M_turn_28
  · rw [if_pos hc] at hf
    refine lv_iconst (v := 1) hx hb d_M_turn_15 (by decide) ?_
    refine lv_goto (tgt := 20) hx hb d_M_turn_16 (by decide) ?_
    refine lv_iconst (v := 0) hx hb d_M_turn_20 (by decide) ?_
    obtain ⟨o3, hco3, hf⟩ := fg_ob_some hf
    refine fgM_i (va_runV (As := [.int 1, .int 0]) (rest := []) ⟨hx, hb, hml, hown, hts⟩ (c_M_refuse l dC dI cI cZ ad _ t n B E C O F L V 1 0 o3 hco3) (cwV 2 hts gv_M_47 rfl rfl rfl (by decide +kernel) ⟨Nat.le_of_ble_eq_true rfl, Nat.le_of_ble_eq_true rfl⟩) (mW_pre hK hP hD) rfl rfl hl.1 rfl (lv_room (Nat.le_of_ble_eq_true rfl)) d_M_turn_21 ⟨Nat.le_of_ble_eq_true rfl, Nat.le_of_ble_eq_true rfl⟩) hP hD hS hA (fun H locs hP hD hS => ?_)
    refine lv_if_eq (tgt := 29) hx hb d_M_turn_24 (by decide) (fun hc => ?_) (fun hc => ?_)
    · rw [if_pos hc] at hf
      refine lv_aload_n hx hb d_M_turn_29 rfl (lv_at hl 0 rfl) ?_
      refine va_get (D := (dC, dI)) (ci := 1) (v := .ref (ad 4)) (C := R_M) (T := F_M) (N := 9) hx hb hts i_M hown hK hP 0 rfl rfl 5 (by decide) (hts _ fl_M_19) (fun _ h9 => h9) rfl d_M_turn_30 ?_
      refine lv_iload_n hx hb d_M_turn_33 rfl (lv_at hl 1 rfl) ?_
      obtain ⟨hi, hf⟩ := fg_og_some hf
      refine va_zald hx hb hK hP 4 1 rfl rfl (ix_in hi) d_M_turn_34 ?_
      refine lv_iload_n hx hb d_M_turn_35 rfl (lv_at hl 2 rfl) ?_
      refine lv_icmp_ne (tgt := 43) hx hb d_M_turn_36 (by decide) (fun hc => ?_) (fun hc => ?_)
      · rw [if_neg hc] at hf
        refine lv_iconst (v := 0) hx hb d_M_turn_43 (by decide) ?_
        refine lv_istore_n (lv' := [(3, .int 0), (0, .ref (ad 0)), (1, .int p0), (2, .int p1)]) hx hb d_M_turn_44 rfl hl (by decide) rfl (fun ls hl => ?_)
        refine lv_aload_n hx hb d_M_turn_45 rfl (lv_at hl 1 rfl) ?_
        refine va_get (D := (dC, dI)) (ci := 1) (v := .ref (ad 4)) (C := R_M) (T := F_M) (N := 9) hx hb hts i_M hown hK hP 0 rfl rfl 5 (by decide) (hts _ fl_M_19) (fun _ h9 => h9) rfl d_M_turn_46 ?_
        refine lv_iload_n hx hb d_M_turn_49 rfl (lv_at hl 2 rfl) ?_
        refine lv_iload_n hx hb d_M_turn_50 rfl (lv_at hl 3 rfl) ?_
        obtain ⟨hi, hf⟩ := fg_og_some hf
        refine va_zast hx hb hK hP hD hS 4 1 rfl rfl (ix_in hi) d_M_turn_51 (fun H locs hP hD hS => ?_)
        have hP : va_P (dC, dI) classes (mW cI cZ ad o3.2 n B E C (upd O p0.toNatClampNeg (vp_nar .boolean p1)) F L V) H := hP
        have hD : va_D A (mW cI cZ ad o3.2 n B E C (upd O p0.toNatClampNeg (vp_nar .boolean p1)) F L V) := hD
        refine lv_iload_n hx hb d_M_turn_52 rfl (lv_at hl 0 rfl) ?_
        cases hf
        exact hE _ _ _ _ hP hD hS (by first | decide | (dsimp only; decide)) d_M_turn_53
      · rw [if_pos hc] at hf
        refine lv_iconst (v := 1) hx hb d_M_turn_39 (by decide) ?_
        refine lv_goto (tgt := 44) hx hb d_M_turn_40 (by decide) ?_
        refine lv_istore_n (lv' := [(3, .int 1), (0, .ref (ad 0)), (1, .int p0), (2, .int p1)]) hx hb d_M_turn_44 rfl hl (by decide) rfl (fun ls hl => ?_)
        refine lv_aload_n hx hb d_M_turn_45 rfl (lv_at hl 1 rfl) ?_
        refine va_get (D := (dC, dI)) (ci := 1) (v := .ref (ad 4)) (C := R_M) (T := F_M) (N := 9) hx hb hts i_M hown hK hP 0 rfl rfl 5 (by decide) (hts _ fl_M_19) (fun _ h9 => h9) rfl d_M_turn_46 ?_
        refine lv_iload_n hx hb d_M_turn_49 rfl (lv_at hl 2 rfl) ?_
        refine lv_iload_n hx hb d_M_turn_50 rfl (lv_at hl 3 rfl) ?_
        obtain ⟨hi, hf⟩ := fg_og_some hf
        refine va_zast hx hb hK hP hD hS 4 1 rfl rfl (ix_in hi) d_M_turn_51 (fun H locs hP hD hS => ?_)
        have hP : va_P (dC, dI) classes (mW cI cZ ad o3.2 n B E C (upd O p0.toNatClampNeg (vp_nar .boolean p1)) F L V) H := hP
        have hD : va_D A (mW cI cZ ad o3.2 n B E C (upd O p0.toNatClampNeg (vp_nar .boolean p1)) F L V) := hD
        refine lv_iload_n hx hb d_M_turn_52 rfl (lv_at hl 0 rfl) ?_
        cases hf
        exact hE _ _ _ _ hP hD hS (by first | decide | (dsimp only; decide)) d_M_turn_53
    · rw [if_neg hc] at hf
      refine lv_iconst (v := 0) hx hb d_M_turn_27 (by decide) ?_
      cases hf
      exact hE _ _ _ _ hP hD hS (by first | decide | (dsimp only; decide)) d_M_turn_28
