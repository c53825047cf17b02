set_option maxHeartbeats 4000000 in
set_option maxRecDepth 100000 in
theorem w_M_circleOf_11 {p : Program} {l : Launch} {e : Env} {s : State} {m : MethodId} {args : Array Value} {below : List Frame} {meth : Method} {c : Code} {Q : State → Prop} {A : Nat → Prop} {dC : Nat → ClassId} {dI : Nat → Nat → Nat} {cI cZ : ClassId} {ad : Nat → Nat} (hx : p.tables.exec = Jvm.exec) (hb : c.code = b_M_circleOf) (hml : c.maxLocals = 5) (hown : s.vm.findClass R_M = some m.cls) (hts : ∀ w ∈ gw, w.before args s = true) (hK : va_K (dC, dI) classes (gT cI cZ) s) (hA : ∀ q : Nat, s.heap.size ≤ q → A q) (x1 : Int32) (x2 : Int32) (t : Int32) (n : Int32) (B : fg_A) (E : fg_A) (C : fg_A) (O : fg_A) (L : fg_A) (V : fg_A) :
    ∀ (k : Nat) (x3 : Int32) (x4 : Int32) (F : fg_A) (o : Int32 × fg_A), f_M_circleOf_11 n B E O x1 x2 k x3 x4 F = some o → ∀ (H : Heap) (locs : List Loc) (ls : Array Slot), va_P (dC, dI) classes (mW cI cZ ad t n B E C O F L V) H → va_D A (mW cI cZ ad t n B E C O F L V) → va_S A s.heap H locs → lv_has ls 5 [(0, .ref (ad 0)), (1, .int x1), (2, .int x2), (3, .int x3), (4, .int x4)] →
    (∀ (H : Heap) (locs : List Loc) (ls : Array Slot), va_P (dC, dI) classes (mW cI cZ ad t n B E C O o.2 L V) H → va_D A (mW cI cZ ad t n B E C O o.2 L V) → va_S A s.heap H locs → lv_has ls 5 [(3, .int o.1)] → W p l e (headSpec w_M_circleOf rm_M_circleOf).room s m args below meth c H locs 0 0 Q (F0 m 59 ls [])) → W p l e (headSpec w_M_circleOf rm_M_circleOf).room s m args below meth c H locs 0 0 Q (F0 m 11 ls []) := by
  intro k
  induction k with
  | zero =>
    intro x3 x4 F o hf
    exact absurd (show none = some o from hf) (by simp)
  | succ k ih =>
    intro x3 x4 F o hf H locs ls hP hD hS hl hk
    rw [f_M_circleOf_11] at hf
    refine lv_iload hx hb d_M_circleOf_11 (lv_at hl 4 rfl) ?_
    refine lv_bipush (v := 28) hx hb d_M_circleOf_13 (by decide) ?_
    refine lv_icmp_ge (tgt := 59) hx hb d_M_circleOf_15 (by decide) (fun hc => ?_) (fun hc => ?_)
    · rw [if_pos hc] at hf
      cases hf
      exact hk _ _ _ hP hD hS (lv_sub hl [3] rfl)
    · rw [if_neg hc] at hf
      refine lv_iload_n hx hb d_M_circleOf_18 rfl (lv_at hl 2 rfl) ?_
      refine lv_iload hx hb d_M_circleOf_19 (lv_at hl 4 rfl) ?_
      refine lv_ishr hx hb d_M_circleOf_21 ?_
      refine lv_iconst (v := 1) hx hb d_M_circleOf_22 (by decide) ?_
      refine lv_iand hx hb d_M_circleOf_23 ?_
      refine lv_iconst (v := 1) hx hb d_M_circleOf_24 (by decide) ?_
      refine lv_icmp_ne (tgt := 51) hx hb d_M_circleOf_25 (by decide) (fun hc => ?_) (fun hc => ?_)
      · rw [if_neg hc] at hf
        refine lv_iload_n hx hb d_M_circleOf_51 rfl (lv_at hl 3 rfl) ?_
        refine lv_istore_n (lv' := [(3, .int x3), (0, .ref (ad 0)), (1, .int x1), (2, .int x2), (4, .int x4)]) hx hb d_M_circleOf_52 rfl hl (by decide) rfl (fun ls hl => ?_)
        refine lv_iinc (v := x4 + 1) (lv' := [(4, .int (x4 + 1)), (3, .int x3), (0, .ref (ad 0)), (1, .int x1), (2, .int x2)]) hx hb d_M_circleOf_53 hl (k := 4) rfl rfl (by decide) rfl (fun ls hl => ?_)
        refine lv_goto (tgt := 11) hx hb d_M_circleOf_56 (by decide) ?_
        exact ih x3 (x4 + 1) F _ hf _ _ _ hP hD hS (lv_sub hl [2, 3, 4, 1, 0] rfl) hk
      · rw [if_pos hc] at hf
        refine lv_aload_n hx hb d_M_circleOf_28 rfl (lv_at hl 0 rfl) ?_
        refine lv_iload hx hb d_M_circleOf_29 (lv_at hl 4 rfl) ?_
        obtain ⟨o1, hco1, hf⟩ := fg_ob_some hf
        refine fgM_i (va_runV (As := [.int x4]) (rest := []) ⟨hx, hb, hml, hown, hts⟩ (c_M_before l dC dI cI cZ ad _ t n B E C O F L V x4 o1 hco1) (cwV 1 hts gv_M_55 rfl rfl rfl (by decide +kernel) ⟨Nat.le_of_ble_eq_true rfl, Nat.le_of_ble_eq_true rfl⟩) (mW_pre hK hP hD) rfl rfl hl.1 rfl (lv_room (Nat.le_of_ble_eq_true rfl)) d_M_circleOf_31 ⟨Nat.le_of_ble_eq_true rfl, Nat.le_of_ble_eq_true rfl⟩) hP hD hS hA (fun H locs hP hD hS => ?_)
        refine lv_iload_n hx hb d_M_circleOf_34 rfl (lv_at hl 1 rfl) ?_
        refine lv_ishr hx hb d_M_circleOf_35 ?_
        refine lv_iconst (v := 1) hx hb d_M_circleOf_36 (by decide) ?_
        refine lv_iand hx hb d_M_circleOf_37 ?_
        refine lv_iconst (v := 1) hx hb d_M_circleOf_38 (by decide) ?_
        refine lv_icmp_ne (tgt := 51) hx hb d_M_circleOf_39 (by decide) (fun hc => ?_) (fun hc => ?_)
        · rw [if_neg hc] at hf
          refine lv_iload_n hx hb d_M_circleOf_51 rfl (lv_at hl 3 rfl) ?_
          refine lv_istore_n (lv' := [(3, .int x3), (0, .ref (ad 0)), (1, .int x1), (2, .int x2), (4, .int x4)]) hx hb d_M_circleOf_52 rfl hl (by decide) rfl (fun ls hl => ?_)
          refine lv_iinc (v := x4 + 1) (lv' := [(4, .int (x4 + 1)), (3, .int x3), (0, .ref (ad 0)), (1, .int x1), (2, .int x2)]) hx hb d_M_circleOf_53 hl (k := 4) rfl rfl (by decide) rfl (fun ls hl => ?_)
          refine lv_goto (tgt := 11) hx hb d_M_circleOf_56 (by decide) ?_
          exact ih x3 (x4 + 1) o1.2 _ hf _ _ _ hP hD hS (lv_sub hl [2, 3, 4, 1, 0] rfl) hk
        · rw [if_pos hc] at hf
          refine lv_iload_n hx hb d_M_circleOf_42 rfl (lv_at hl 3 rfl) ?_
          refine lv_iconst (v := 1) hx hb d_M_circleOf_43 (by decide) ?_
          refine lv_iload hx hb d_M_circleOf_44 (lv_at hl 4 rfl) ?_
          refine lv_ishl hx hb d_M_circleOf_46 ?_
          refine lv_ior hx hb d_M_circleOf_47 ?_
          refine lv_goto (tgt := 52) hx hb d_M_circleOf_48 (by decide) ?_
          refine lv_istore_n (lv' := [(3, .int (x3 ||| (1 <<< (x4 &&& 31)))), (0, .ref (ad 0)), (1, .int x1), (2, .int x2), (4, .int x4)]) hx hb d_M_circleOf_52 rfl hl (by decide) rfl (fun ls hl => ?_)
          refine lv_iinc (v := x4 + 1) (lv' := [(4, .int (x4 + 1)), (3, .int (x3 ||| (1 <<< (x4 &&& 31)))), (0, .ref (ad 0)), (1, .int x1), (2, .int x2)]) hx hb d_M_circleOf_53 hl (k := 4) rfl rfl (by decide) rfl (fun ls hl => ?_)
          refine lv_goto (tgt := 11) hx hb d_M_circleOf_56 (by decide) ?_
          exact ih (x3 ||| (1 <<< (x4 &&& 31))) (x4 + 1) o1.2 _ hf _ _ _ hP hD hS (lv_sub hl [2, 3, 4, 1, 0] rfl) hk
set_option maxHeartbeats 4000000 in
set_option maxRecDepth 100000 in
theorem c_M_circleOf (l : Launch) (dC : Nat → ClassId) (dI : Nat → Nat → Nat) (cI cZ : ClassId) (ad : Nat → Nat) (sz : Nat) (t : Int32) (n : Int32) (B : fg_A) (E : fg_A) (C : fg_A) (O : fg_A) (F : fg_A) (L : fg_A) (V : fg_A) (p0 : Int32) (o : Int32 × fg_A) (hf : f_M_circleOf n B E O F p0 = some o) : Met l y_M_circleOf w_M_circleOf rm_M_circleOf (mW_Pc dC dI cI cZ ad sz t n B E C O F L V [.ref (ad 0), .int p0]) (mW_Qi dC dI cI cZ ad (va_A (mW cI cZ ad t n B E C O F L V) sz) t n B E C O o.2 L V o.1) 0 0 (va_A (mW cI cZ ad t n B E C O F L V) sz) := by
  refine Met.ofW (cc := b_M_circleOf) (maxL := 5) (ret := (some .int)) (by decide) rfl ?_
  intro p e s m args below meth c s₁ Bd hml hv
  obtain ⟨rfl, hsz, hP, hK, hD0⟩ := hv
  have hx := Bd.exec
  have hb := Bd.bytes
  have hr := Bd.returns
  have hts := fun w h => atoms_spec (ws := w_M_circleOf) Bd.pre w (List.mem_cons_of_mem _ h)
  have hown : s.vm.findClass R_M = some m.cls := findClass_of_methodNamed Bd.named
  have hlocks := Bd.notSynchronized
  subst hsz
  have hD := hD0.self (sz := s.heap.size)
  generalize hAe : va_A (mW cI cZ ad t n B E C O F L V) s.heap.size = A at hD ⊢
  have hA : ∀ q : Nat, s.heap.size ≤ q → A q := fun q h => by rw [← hAe]; exact Or.inr h
  have hS : va_S A s.heap s.heap [] := va_S.rf
  have hl := lv_entry ([.ref (ad 0), .int p0]) (n := 5) (Nat.le_of_ble_eq_true rfl)
  rw [lg_entry_eq]
  generalize (lg_sl ([.ref (ad 0), .int p0]) ++ List.replicate (5 - (lg_sl ([.ref (ad 0), .int p0])).length) Slot.unset).toArray = ls at hl ⊢
  have hl : lv_has ls 5 [(0, .ref (ad 0)), (1, .int p0)] := hl
  have hE : ∀ (pc : Nat) (H : Heap) (locs : List Loc) (ls : Array Slot), va_P (dC, dI) classes (mW cI cZ ad t n B E C O o.2 L V) H → va_D A (mW cI cZ ad t n B E C O o.2 L V) → va_S A s.heap H locs → decode b_M_circleOf pc = .ok (.ireturn, 1) → W p l e (headSpec w_M_circleOf rm_M_circleOf).room s m ([.ref (ad 0), .int p0] : List Value).toArray below meth c H locs 0 0 (MQ below (mW_Qi dC dI cI cZ ad A t n B E C O o.2 L V o.1) ([.ref (ad 0), .int p0] : List Value).toArray s 0 0 A) (F0 m pc ls [.int o.1]) := fun pc H locs ls hP hD hS hd => W.iret (v := o.1) hx hb hr (fun t ht hW => ⟨⟨o.1, (), rfl, rfl, by rw [ht]; exact hP, va_K.moved hW.alike hK, hD⟩, hS.F ht⟩) hS.2.2 hd
  unfold f_M_circleOf at hf
  refine lv_aload_n hx hb d_M_circleOf_0 rfl (lv_at hl 0 rfl) ?_
  refine lv_iload_n hx hb d_M_circleOf_1 rfl (lv_at hl 1 rfl) ?_
  obtain ⟨o1, hco1, hf⟩ := fg_ob_some hf
  refine fgM_i (va_runV (As := [.int p0]) (rest := []) ⟨hx, hb, hml, hown, hts⟩ (c_M_before l dC dI cI cZ ad _ t n B E C O F L V p0 o1 hco1) (cwV 1 hts gv_M_55 rfl rfl rfl (by decide +kernel) ⟨Nat.le_of_ble_eq_true rfl, Nat.le_of_ble_eq_true rfl⟩) (mW_pre hK hP hD) rfl rfl hl.1 rfl (lv_room (Nat.le_of_ble_eq_true rfl)) d_M_circleOf_2 ⟨Nat.le_of_ble_eq_true rfl, Nat.le_of_ble_eq_true rfl⟩) hP hD hS hA (fun H locs hP hD hS => ?_)
  refine lv_istore_n (lv' := [(2, .int o1.1), (0, .ref (ad 0)), (1, .int p0)]) hx hb d_M_circleOf_5 rfl hl (by decide) rfl (fun ls hl => ?_)
  refine lv_iconst (v := 0) hx hb d_M_circleOf_6 (by decide) ?_
  refine lv_istore_n (lv' := [(3, .int 0), (2, .int o1.1), (0, .ref (ad 0)), (1, .int p0)]) hx hb d_M_circleOf_7 rfl hl (by decide) rfl (fun ls hl => ?_)
  refine lv_iconst (v := 0) hx hb d_M_circleOf_8 (by decide) ?_
  refine lv_istore (lv' := [(4, .int 0), (3, .int 0), (2, .int o1.1), (0, .ref (ad 0)), (1, .int p0)]) hx hb d_M_circleOf_9 hl (by decide) rfl (fun ls hl => ?_)
  obtain ⟨o2, hco2, hf⟩ := fg_ob_some hf
  refine w_M_circleOf_11 hx hb hml hown hts hK hA p0 o1.1 t n B E C O L V fu 0 0 o1.2 o2 hco2 _ _ _ hP hD hS (lv_sub hl [3, 4, 2, 1, 0] rfl) (fun H locs ls hP hD hS hl => ?_)
  refine lv_iload_n hx hb d_M_circleOf_59 rfl (lv_at hl 0 rfl) ?_
  cases hf
  exact hE _ _ _ _ hP hD hS d_M_circleOf_60
set_option maxHeartbeats 4000000 in
set_option maxRecDepth 100000 in
theorem c_M_areUnlike (l : Launch) (p0 : Int32) (p1 : Int32) (o : Int32) (hf : f_M_areUnlike p0 p1 = some o) : Met l y_M_areUnlike w_M_areUnlike rm_M_areUnlike (fun v _ => v = ([.int p0, .int p1] : List Value).toArray) (QcRead o) 0 0 (fun _ => False) := by
  refine Met.ofW (cc := b_M_areUnlike) (maxL := 2) (ret := (some .boolean)) (by decide) rfl ?_
  intro p e s m args below meth c s₁ Bd hml hv
  obtain rfl := hv
  have hx := Bd.exec
  have hb := Bd.bytes
  have hr := Bd.returns
  have hts := fun w h => atoms_spec (ws := w_M_areUnlike) Bd.pre w (List.mem_cons_of_mem _ h)
  have hown : s.vm.findClass R_M = some m.cls := findClass_of_methodNamed Bd.named
  have hlocks := Bd.notSynchronized
  have hl := lv_entry ([.int p0, .int p1]) (n := 2) (Nat.le_of_ble_eq_true rfl)
  rw [lg_entry_eq]
  generalize (lg_sl ([.int p0, .int p1]) ++ List.replicate (2 - (lg_sl ([.int p0, .int p1])).length) Slot.unset).toArray = ls at hl ⊢
  have hl : lv_has ls 2 [(0, .int p0), (1, .int p1)] := hl
  unfold f_M_areUnlike at hf
  refine lv_iload_n hx hb d_M_areUnlike_0 rfl (lv_at hl 0 rfl) ?_
  obtain ⟨o1, hco1, hf⟩ := fg_ob_some hf
  refine fg_r0 (W.runS (As := [.int p0]) (rest := []) ⟨hx, hb, hml, hown, hts⟩ (c_M_isNode l p0 o1 hco1) (cwS 1 hts gs_M_43 rfl rfl rfl (by decide +kernel) ⟨Nat.le_of_ble_eq_true rfl, Nat.le_of_ble_eq_true rfl⟩) preEq rfl rfl hl.1 rfl (lv_room (Nat.le_of_ble_eq_true rfl)) d_M_areUnlike_1 ⟨Nat.le_of_ble_eq_true rfl, Nat.le_of_ble_eq_true rfl⟩) ?_
  refine lv_if_eq (tgt := 23) hx hb d_M_areUnlike_4 (by decide) (fun hc => ?_) (fun hc => ?_)
  · rw [if_pos hc] at hf
    refine lv_iconst (v := 0) hx hb d_M_areUnlike_23 (by decide) ?_
    cases hf
    exact W.zret hx hb hr (by decide) (fun t ht hW => ⟨rfl, ht⟩) (fun q h => by cases h) d_M_areUnlike_24
  · rw [if_neg hc] at hf
    refine lv_iload_n hx hb d_M_areUnlike_7 rfl (lv_at hl 1 rfl) ?_
    obtain ⟨o2, hco2, hf⟩ := fg_ob_some hf
    refine fg_r0 (W.runS (As := [.int p1]) (rest := []) ⟨hx, hb, hml, hown, hts⟩ (c_M_isNode l p1 o2 hco2) (cwS 1 hts gs_M_43 rfl rfl rfl (by decide +kernel) ⟨Nat.le_of_ble_eq_true rfl, Nat.le_of_ble_eq_true rfl⟩) preEq rfl rfl hl.1 rfl (lv_room (Nat.le_of_ble_eq_true rfl)) d_M_areUnlike_8 ⟨Nat.le_of_ble_eq_true rfl, Nat.le_of_ble_eq_true rfl⟩) ?_
    refine lv_if_eq (tgt := 23) hx hb d_M_areUnlike_11 (by decide) (fun hc => ?_) (fun hc => ?_)
    · rw [if_pos hc] at hf
      refine lv_iconst (v := 0) hx hb d_M_areUnlike_23 (by decide) ?_
      cases hf
      exact W.zret hx hb hr (by decide) (fun t ht hW => ⟨rfl, ht⟩) (fun q h => by cases h) d_M_areUnlike_24
    · rw [if_neg hc] at hf
      refine lv_iload_n hx hb d_M_areUnlike_14 rfl (lv_at hl 0 rfl) ?_
      refine lv_iload_n hx hb d_M_areUnlike_15 rfl (lv_at hl 1 rfl) ?_
      refine lv_icmp_eq (tgt := 23) hx hb d_M_areUnlike_16 (by decide) (fun hc => ?_) (fun hc => ?_)
      · rw [if_pos hc] at hf
        refine lv_iconst (v := 0) hx hb d_M_areUnlike_23 (by decide) ?_
        cases hf
        exact W.zret hx hb hr (by decide) (fun t ht hW => ⟨rfl, ht⟩) (fun q h => by cases h) d_M_areUnlike_24
      · rw [if_neg hc] at hf
        refine lv_iconst (v := 1) hx hb d_M_areUnlike_19 (by decide) ?_
        refine lv_goto (tgt := 24) hx hb d_M_areUnlike_20 (by decide) ?_
        cases hf
        exact W.zret hx hb hr (by decide) (fun t ht hW => ⟨rfl, ht⟩) (fun q h => by cases h) d_M_areUnlike_24
set_option maxHeartbeats 4000000 in
set_option maxRecDepth 100000 in
theorem c_M_circle (l : Launch) (dC : Nat → ClassId) (dI : Nat → Nat → Nat) (cI cZ : ClassId) (ad : Nat → Nat) (sz : Nat) (t : Int32) (n : Int32) (B : fg_A) (E : fg_A) (C : fg_A) (O : fg_A) (F : fg_A) (L : fg_A) (V : fg_A) (p0 : Int32) (o : Int32 × Int32 × fg_A) (hf : f_M_circle t n B E O F p0 = some o) : Met l y_M_circle w_M_circle rm_M_circle (mW_Pc dC dI cI cZ ad sz t n B E C O F L V [.ref (ad 0), .int p0]) (mW_Qi dC dI cI cZ ad (va_A (mW cI cZ ad t n B E C O F L V) sz) o.2.1 n B E C O o.2.2 L V o.1) 0 0 (va_A (mW cI cZ ad t n B E C O F L V) sz) := by
  refine Met.ofW (cc := b_M_circle) (maxL := 2) (ret := (some .int)) (by decide) rfl ?_
  intro p e s m args below meth c s₁ Bd hml hv
  obtain ⟨rfl, hsz, hP, hK, hD0⟩ := hv
  have hx := Bd.exec
  have hb := Bd.bytes
  have hr := Bd.returns
  have hts := fun w h => atoms_spec (ws := w_M_circle) Bd.pre w (List.mem_cons_of_mem _ h)
  have hown : s.vm.findClass R_M = some m.cls := findClass_of_methodNamed Bd.named
  have hlocks := Bd.notSynchronized
  subst hsz
  have hD := hD0.self (sz := s.heap.size)
  generalize hAe : va_A (mW cI cZ ad t n B E C O F L V) s.heap.size = A at hD ⊢
  have hA : ∀ q : Nat, s.heap.size ≤ q → A q := fun q h => by rw [← hAe]; exact Or.inr h
  have hS : va_S A s.heap s.heap [] := va_S.rf
  have hl := lv_entry ([.ref (ad 0), .int p0]) (n := 2) (Nat.le_of_ble_eq_true rfl)
  rw [lg_entry_eq]
  generalize (lg_sl ([.ref (ad 0), .int p0]) ++ List.replicate (2 - (lg_sl ([.ref (ad 0), .int p0])).length) Slot.unset).toArray = ls at hl ⊢
  have hl : lv_has ls 2 [(0, .ref (ad 0)), (1, .int p0)] := hl
  have hE : ∀ (pc : Nat) (H : Heap) (locs : List Loc) (ls : Array Slot), va_P (dC, dI) classes (mW cI cZ ad o.2.1 n B E C O o.2.2 L V) H → va_D A (mW cI cZ ad o.2.1 n B E C O o.2.2 L V) → va_S A s.heap H locs → decode b_M_circle pc = .ok (.ireturn, 1) → W p l e (headSpec w_M_circle rm_M_circle).room s m ([.ref (ad 0), .int p0] : List Value).toArray below meth c H locs 0 0 (MQ below (mW_Qi dC dI cI cZ ad A o.2.1 n B E C O o.2.2 L V o.1) ([.ref (ad 0), .int p0] : List Value).toArray s 0 0 A) (F0 m pc ls [.int o.1]) := fun pc H locs ls hP hD hS hd => W.iret (v := o.1) hx hb hr (fun t ht hW => ⟨⟨o.1, (), rfl, rfl, by rw [ht]; exact hP, va_K.moved hW.alike hK, hD⟩, hS.F ht⟩) hS.2.2 hd
  unfold f_M_circle at hf
  refine lv_aload_n hx hb d_M_circle_0 rfl (lv_at hl 0 rfl) ?_
  refine lv_iload_n hx hb d_M_circle_1 rfl (lv_at hl 1 rfl) ?_
  obtain ⟨o1, hco1, hf⟩ := fg_ob_some hf
  refine fg_r0 (W.runS (As := [.int p0]) (rest := [.ref (ad 0)]) ⟨hx, hb, hml, hown, hts⟩ (c_M_isNode l p0 o1 hco1) (cwS 1 hts gs_M_43 rfl rfl rfl (by decide +kernel) ⟨Nat.le_of_ble_eq_true rfl, Nat.le_of_ble_eq_true rfl⟩) preEq rfl rfl hl.1 rfl (lv_room (Nat.le_of_ble_eq_true rfl)) d_M_circle_2 ⟨Nat.le_of_ble_eq_true rfl, Nat.le_of_ble_eq_true rfl⟩) ?_
  refine lv_if_ne (tgt := 12) hx hb d_M_circle_5 (by decide) (fun hc => ?_) (fun hc => ?_)
  · rw [if_neg hc] at hf
    refine lv_iconst (v := 0) hx hb d_M_circle_12 (by decide) ?_
    refine lv_iconst (v := 0) hx hb d_M_circle_13 (by decide) ?_
    obtain ⟨o2, hco2, hf⟩ := fg_ob_some hf
    refine fgM_i (va_runV (As := [.int 0, .int 0]) (rest := []) ⟨hx, hb, hml, hown, hts⟩ (c_M_refuse l dC dI cI cZ ad _ t n B E C O F L V 0 0 o2 hco2) (cwV 2 hts gv_M_47 rfl rfl rfl (by decide +kernel) ⟨Nat.le_of_ble_eq_true rfl, Nat.le_of_ble_eq_true rfl⟩) (mW_pre hK hP hD) rfl rfl hl.1 rfl (lv_room (Nat.le_of_ble_eq_true rfl)) d_M_circle_14 ⟨Nat.le_of_ble_eq_true rfl, Nat.le_of_ble_eq_true rfl⟩) hP hD hS hA (fun H locs hP hD hS => ?_)
    refine lv_if_eq (tgt := 24) hx hb d_M_circle_17 (by decide) (fun hc => ?_) (fun hc => ?_)
    · rw [if_pos hc] at hf
      refine lv_aload_n hx hb d_M_circle_24 rfl (lv_at hl 0 rfl) ?_
      refine lv_iload_n hx hb d_M_circle_25 rfl (lv_at hl 1 rfl) ?_
      obtain ⟨o3, hco3, hf⟩ := fg_ob_some hf
      refine fgM_i (va_runV (As := [.int p0]) (rest := []) ⟨hx, hb, hml, hown, hts⟩ (c_M_circleOf l dC dI cI cZ ad _ o2.2 n B E C O F L V p0 o3 hco3) (cwV 1 hts gv_M_59 rfl rfl rfl (by decide +kernel) ⟨Nat.le_of_ble_eq_true rfl, Nat.le_of_ble_eq_true rfl⟩) (mW_pre hK hP hD) rfl rfl hl.1 rfl (lv_room (Nat.le_of_ble_eq_true rfl)) d_M_circle_26 ⟨Nat.le_of_ble_eq_true rfl, Nat.le_of_ble_eq_true rfl⟩) hP hD hS hA (fun H locs hP hD hS => ?_)
      cases hf
      exact hE _ _ _ _ hP hD hS d_M_circle_29
    · rw [if_neg hc] at hf
      refine lv_iconst (v := 0) hx hb d_M_circle_20 (by decide) ?_
      refine lv_goto (tgt := 29) hx hb d_M_circle_21 (by decide) ?_
      cases hf
      exact hE _ _ _ _ hP hD hS d_M_circle_29
  · rw [if_pos hc] at hf
    refine lv_iconst (v := 1) hx hb d_M_circle_8 (by decide) ?_
    refine lv_goto (tgt := 13) hx hb d_M_circle_9 (by decide) ?_
    refine lv_iconst (v := 0) hx hb d_M_circle_13 (by decide) ?_
    obtain ⟨o4, hco4, hf⟩ := fg_ob_some hf
    refine fgM_i (va_runV (As := [.int 1, .int 0]) (rest := []) ⟨hx, hb, hml, hown, hts⟩ (c_M_refuse l dC dI cI cZ ad _ t n B E C O F L V 1 0 o4 hco4) (cwV 2 hts gv_M_47 rfl rfl rfl (by decide +kernel) ⟨Nat.le_of_ble_eq_true rfl, Nat.le_of_ble_eq_true rfl⟩) (mW_pre hK hP hD) rfl rfl hl.1 rfl (lv_room (Nat.le_of_ble_eq_true rfl)) d_M_circle_14 ⟨Nat.le_of_ble_eq_true rfl, Nat.le_of_ble_eq_true rfl⟩) hP hD hS hA (fun H locs hP hD hS => ?_)
    refine lv_if_eq (tgt := 24) hx hb d_M_circle_17 (by decide) (fun hc => ?_) (fun hc => ?_)
    · rw [if_pos hc] at hf
      refine lv_aload_n hx hb d_M_circle_24 rfl (lv_at hl 0 rfl) ?_
      refine lv_iload_n hx hb d_M_circle_25 rfl (lv_at hl 1 rfl) ?_
      obtain ⟨o5, hco5, hf⟩ := fg_ob_some hf
      refine fgM_i (va_runV (As := [.int p0]) (rest := []) ⟨hx, hb, hml, hown, hts⟩ (c_M_circleOf l dC dI cI cZ ad _ o4.2 n B E C O F L V p0 o5 hco5) (cwV 1 hts gv_M_59 rfl rfl rfl (by decide +kernel) ⟨Nat.le_of_ble_eq_true rfl, Nat.le_of_ble_eq_true rfl⟩) (mW_pre hK hP hD) rfl rfl hl.1 rfl (lv_room (Nat.le_of_ble_eq_true rfl)) d_M_circle_26 ⟨Nat.le_of_ble_eq_true rfl, Nat.le_of_ble_eq_true rfl⟩) hP hD hS hA (fun H locs hP hD hS => ?_)
      cases hf
      exact hE _ _ _ _ hP hD hS d_M_circle_29
    · rw [if_neg hc] at hf
      refine lv_iconst (v := 0) hx hb d_M_circle_20 (by decide) ?_
      refine lv_goto (tgt := 29) hx hb d_M_circle_21 (by decide) ?_
      cases hf
      exact hE _ _ _ _ hP hD hS d_M_circle_29
