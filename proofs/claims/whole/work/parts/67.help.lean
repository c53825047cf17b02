set_option maxHeartbeats 4000000 in
set_option maxRecDepth 100000 in
theorem c_L_rule (l : Launch) (hst : l.stackTraces = false) (f : Nat → Nat) (dC : Nat → ClassId) (dI : Nat → Nat → Nat) (cI cZ cJ : ClassId) (ad : Nat → Nat) (q : Nat) (sz : Nat) (gB : fg_A) (gE : fg_A) (gC : fg_A) (gO : fg_A) (gn : Int32) (gF : fg_A) (gL : fg_A) (gV : fg_A) (w : fg_J) (p0 : Int32) (p1 : Int32) (p2 : Int32) (o : Int32 × fg_A × fg_A × fg_A × fg_A × Int32 × fg_J) (hf : h_rule gB gE gC gO gn p0 p1 p2 w = some o) : Met l y_L_rule w_L_rule rm_L_rule (hW_Pc f dC dI cI cZ cJ ad q sz gB gE gC gO gn gF gL gV w [.ref (ad 0), .int p0, .int p1, .int p2, .ref q]) (hW_Qi dC dI cI cZ cJ ad q (va_A (hW cI cZ cJ ad q gB gE gC gO gn gF gL gV w) sz) o.2.1 o.2.2.1 o.2.2.2.1 o.2.2.2.2.1 o.2.2.2.2.2.1 gF gL gV o.2.2.2.2.2.2 o.1) 1 6 (va_A (hW cI cZ cJ ad q gB gE gC gO gn gF gL gV w) sz) := by
  refine va_MetW (cc := b_L_rule) (maxL := 6) (ret := some .int) (hh := hh_L_rule) (by decide) rfl ?_
  intro p e s m args below meth c s₁ Bd hml hv
  obtain ⟨rfl, hsz, hP, hK, hD0, hX, hC⟩ := hv
  have hx := Bd.exec
  have hb := Bd.bytes
  have hr := Bd.returns
  have hts := fun w h => atoms_spec (ws := w_L_rule) Bd.pre w (List.mem_cons_of_mem _ h)
  have htab := vx_table (x := y_L_rule) Bd (atoms_spec (ws := w_L_rule) Bd.pre _ List.mem_cons_self)
  have hown : s.vm.findClass R_L = some m.cls := findClass_of_methodNamed Bd.named
  have hlocks := Bd.notSynchronized
  subst hsz
  have hD := hD0.self (sz := s.heap.size)
  generalize hAe : va_A (hW cI cZ cJ ad q gB gE gC gO gn gF gL gV w) s.heap.size = A at hD hX ⊢
  have hA : ∀ z : Nat, s.heap.size ≤ z → A z := fun z h => by rw [← hAe]; exact Or.inr h
  have hS : va_S A s.heap s.heap [] := va_S.rf
  have hKc := hK.sub (tys' := gT cI cZ) [0, 1] rfl
  have hl := lv_entry ([.ref (ad 0), .int p0, .int p1, .int p2, .ref q]) (n := 6) (Nat.le_of_ble_eq_true rfl)
  rw [lg_entry_eq]
  generalize (lg_sl ([.ref (ad 0), .int p0, .int p1, .int p2, .ref q]) ++ List.replicate (6 - (lg_sl ([.ref (ad 0), .int p0, .int p1, .int p2, .ref q])).length) Slot.unset).toArray = ls at hl ⊢
  have hl : lv_has ls 6 [(0, .ref (ad 0)), (1, .int p0), (2, .int p1), (3, .int p2), (4, .ref q)] := hl
  unfold h_rule at hf
  refine lv_aload hx hb d_L_rule_0 (lv_at hl 4 rfl) ?_
  refine lv_iconst (v := 0) hx hb d_L_rule_2 (by decide) ?_
  refine lv_aload_n hx hb d_L_rule_3 rfl (lv_at hl 0 rfl) ?_
  refine lv_iload_n hx hb d_L_rule_4 rfl (lv_at hl 1 rfl) ?_
  refine lv_iload_n hx hb d_L_rule_5 rfl (lv_at hl 2 rfl) ?_
  refine lv_iload_n hx hb d_L_rule_6 rfl (lv_at hl 3 rfl) ?_
  rcases fg_oc_some hf with ⟨cd, hcd, hf⟩ | ⟨-, hf⟩
  · refine fgH_x (vx_runV (As := [.int p0, .int p1, .int p2]) (rest := [.int 0, .ref q]) ⟨hx, hb, hml, hown, hts⟩ (ct_G_rule l hst f dC dI cI cZ ad _ gB gE gC gO gn gF gL gV p0 p1 p2 cd hcd) (cwV 3 hts gv_L_7 rfl rfl rfl (by decide +kernel) ⟨Nat.le_of_ble_eq_true rfl, Nat.le_of_ble_eq_true rfl⟩) (tG_pre (A1 := A) hKc (hP.sub [0, 1, 2, 3, 4, 5, 6, 7] rfl) (hD.sub [0, 1, 2, 3, 4, 5, 6, 7] (by decide) rfl) hS hX (va_free hD hS hA [0, 1, 2, 3, 4, 5, 6, 7] rfl)) rfl rfl hl.1 rfl (lv_room (Nat.le_of_ble_eq_true rfl)) d_L_rule_7 ⟨Nat.le_of_ble_eq_true rfl, Nat.le_of_ble_eq_true rfl⟩) hP hD hS hA (fun ce q9 H locs hP hD hS hce hv hcl => ?_)
    by_cases h0 : cd = 0
    · rw [if_pos h0] at hf
      subst h0
      refine vx_catch (own := R_L) (name := xn 0) hown [] ⟨0, 12, 15, 13⟩ [⟨0, 12, 19, 15⟩] (htab.trans rfl) (fun z hz => by cases hz) (by decide) (by decide) (hts _ cl_L_13) (tx_cast hX xc_0) hce hv hcl ?_
      refine lv_astore (lv' := [(5, .ref q9), (0, .ref (ad 0)), (1, .int p0), (2, .int p1), (3, .int p2), (4, .ref q)]) hx hb d_L_rule_15 hl (by decide) rfl (fun ls hl => ?_)
      refine lv_iconst (v := 1) hx hb d_L_rule_17 (by decide) ?_
      cases hf
      refine W.widen (k := 1) (n := 6) (Nat.le_of_ble_eq_true rfl) (Nat.le_of_ble_eq_true rfl) ?_
      exact W.iret (v := 1) hx hb hr (fun t ht hW => ⟨⟨1, (), rfl, rfl, by rw [ht]; exact hP, va_K.moved hW.alike hK, hD⟩, hS.F ht⟩) hS.2.2 d_L_rule_18
    · by_cases h1 : cd = 1
      · rw [if_neg h0, if_pos h1] at hf
        subst h1
        refine vx_catch (own := R_L) (name := xn 1) hown [⟨0, 12, 15, 13⟩] ⟨0, 12, 19, 15⟩ [] (htab.trans rfl) (fun z hz => by rcases List.mem_singleton.mp hz with rfl; exact Or.inr ⟨by decide, xn 0, hts _ cl_L_13, hC.1⟩) (by decide) (by decide) (hts _ cl_L_15) (tx_cast hX xc_1) hce hv hcl ?_
        refine lv_astore (lv' := [(5, .ref q9), (0, .ref (ad 0)), (1, .int p0), (2, .int p1), (3, .int p2), (4, .ref q)]) hx hb d_L_rule_19 hl (by decide) rfl (fun ls hl => ?_)
        refine lv_iconst (v := 2) hx hb d_L_rule_21 (by decide) ?_
        cases hf
        refine W.widen (k := 1) (n := 6) (Nat.le_of_ble_eq_true rfl) (Nat.le_of_ble_eq_true rfl) ?_
        exact W.iret (v := 2) hx hb hr (fun t ht hW => ⟨⟨2, (), rfl, rfl, by rw [ht]; exact hP, va_K.moved hW.alike hK, hD⟩, hS.F ht⟩) hS.2.2 d_L_rule_22
      · rw [if_neg h0, if_neg h1] at hf
        cases hf
  · obtain ⟨o1, ho1, hf⟩ := fg_ob_some hf
    refine fgH_i (va_runV (As := [.int p0, .int p1, .int p2]) (rest := [.int 0, .ref q]) ⟨hx, hb, hml, hown, hts⟩ (c_G_rule l dC dI cI cZ ad _ gB gE gC gO gn gF gL gV p0 p1 p2 o1 ho1) (cwV 3 hts gv_L_7 rfl rfl rfl (by decide +kernel) ⟨Nat.le_of_ble_eq_true rfl, Nat.le_of_ble_eq_true rfl⟩) (gW_pre (A := A) hKc (hP.sub [0, 1, 2, 3, 4, 5, 6, 7] rfl) (hD.sub [0, 1, 2, 3, 4, 5, 6, 7] (by decide) rfl)) rfl rfl hl.1 rfl (lv_room (Nat.le_of_ble_eq_true rfl)) d_L_rule_7 ⟨Nat.le_of_ble_eq_true rfl, Nat.le_of_ble_eq_true rfl⟩) hP hD hS hA (fun H locs hP hD hS => ?_)
    refine lv_i2l hx hb d_L_rule_10 rfl ?_
    refine va_last (i := 0) hx hb hK hP hD hS 8 2 rfl rfl (ix_in (i := 0) (n := 1) (by decide)) d_L_rule_11 (fun H locs hP hD hS => ?_)
    have hP : va_P (dC, dI) classes (hW cI cZ cJ ad q o1.2.1 o1.2.2.1 o1.2.2.2.1 o1.2.2.2.2.1 o1.2.2.2.2.2 gF gL gV (vp_updL w 0 o1.1.toInt64)) H := hP
    have hD : va_D A (hW cI cZ cJ ad q o1.2.1 o1.2.2.1 o1.2.2.2.1 o1.2.2.2.2.1 o1.2.2.2.2.2 gF gL gV (vp_updL w 0 o1.1.toInt64)) := hD
    refine lv_goto (tgt := 23) hx hb d_L_rule_12 (by decide) ?_
    refine lv_iconst (v := 0) hx hb d_L_rule_23 (by decide) ?_
    cases hf
    refine W.widen (k := 1) (n := 6) (Nat.le_of_ble_eq_true rfl) (Nat.le_of_ble_eq_true rfl) ?_
    exact W.iret (v := 0) hx hb hr (fun t ht hW => ⟨⟨0, (), rfl, rfl, by rw [ht]; exact hP, va_K.moved hW.alike hK, hD⟩, hS.F ht⟩) hS.2.2 d_L_rule_24
set_option maxHeartbeats 4000000 in
set_option maxRecDepth 100000 in
theorem c_L_turn (l : Launch) (hst : l.stackTraces = false) (f : Nat → Nat) (dC : Nat → ClassId) (dI : Nat → Nat → Nat) (cI cZ cJ : ClassId) (ad : Nat → Nat) (q : Nat) (sz : Nat) (gB : fg_A) (gE : fg_A) (gC : fg_A) (gO : fg_A) (gn : Int32) (gF : fg_A) (gL : fg_A) (gV : fg_A) (w : fg_J) (p0 : Int32) (p1 : Int32) (o : Int32 × fg_A × fg_J) (hf : h_turn gO gn p0 p1 w = some o) : Met l y_L_turn w_L_turn rm_L_turn (hW_Pc f dC dI cI cZ cJ ad q sz gB gE gC gO gn gF gL gV w [.ref (ad 0), .int p0, .int p1, .ref q]) (hW_Qi dC dI cI cZ cJ ad q (va_A (hW cI cZ cJ ad q gB gE gC gO gn gF gL gV w) sz) gB gE gC o.2.1 gn gF gL gV o.2.2 o.1) 1 6 (va_A (hW cI cZ cJ ad q gB gE gC gO gn gF gL gV w) sz) := by
  refine va_MetW (cc := b_L_turn) (maxL := 5) (ret := some .int) (hh := hh_L_turn) (by decide) rfl ?_
  intro p e s m args below meth c s₁ Bd hml hv
  obtain ⟨rfl, hsz, hP, hK, hD0, hX, hC⟩ := hv
  have hx := Bd.exec
  have hb := Bd.bytes
  have hr := Bd.returns
  have hts := fun w h => atoms_spec (ws := w_L_turn) Bd.pre w (List.mem_cons_of_mem _ h)
  have htab := vx_table (x := y_L_turn) Bd (atoms_spec (ws := w_L_turn) Bd.pre _ List.mem_cons_self)
  have hown : s.vm.findClass R_L = some m.cls := findClass_of_methodNamed Bd.named
  have hlocks := Bd.notSynchronized
  subst hsz
  have hD := hD0.self (sz := s.heap.size)
  generalize hAe : va_A (hW cI cZ cJ ad q gB gE gC gO gn gF gL gV w) s.heap.size = A at hD hX ⊢
  have hA : ∀ z : Nat, s.heap.size ≤ z → A z := fun z h => by rw [← hAe]; exact Or.inr h
  have hS : va_S A s.heap s.heap [] := va_S.rf
  have hKc := hK.sub (tys' := gT cI cZ) [0, 1] rfl
  have hl := lv_entry ([.ref (ad 0), .int p0, .int p1, .ref q]) (n := 5) (Nat.le_of_ble_eq_true rfl)
  rw [lg_entry_eq]
  generalize (lg_sl ([.ref (ad 0), .int p0, .int p1, .ref q]) ++ List.replicate (5 - (lg_sl ([.ref (ad 0), .int p0, .int p1, .ref q])).length) Slot.unset).toArray = ls at hl ⊢
  have hl : lv_has ls 5 [(0, .ref (ad 0)), (1, .int p0), (2, .int p1), (3, .ref q)] := hl
  unfold h_turn at hf
  refine lv_aload_n hx hb d_L_turn_0 rfl (lv_at hl 3 rfl) ?_
  refine lv_iconst (v := 0) hx hb d_L_turn_1 (by decide) ?_
  refine lv_aload_n hx hb d_L_turn_2 rfl (lv_at hl 0 rfl) ?_
  refine lv_iload_n hx hb d_L_turn_3 rfl (lv_at hl 1 rfl) ?_
  refine lv_iload_n hx hb d_L_turn_4 rfl (lv_at hl 2 rfl) ?_
  rcases fg_oc_some hf with ⟨cd, hcd, hf⟩ | ⟨-, hf⟩
  · refine fgH_x (vx_runV (As := [.int p0, .int p1]) (rest := [.int 0, .ref q]) ⟨hx, hb, hml, hown, hts⟩ (ct_G_turn l hst f dC dI cI cZ ad _ gB gE gC gO gn gF gL gV p0 p1 cd hcd) (cwV 2 hts gv_L_17 rfl rfl rfl (by decide +kernel) ⟨Nat.le_of_ble_eq_true rfl, Nat.le_of_ble_eq_true rfl⟩) (tG_pre (A1 := A) hKc (hP.sub [0, 1, 2, 3, 4, 5, 6, 7] rfl) (hD.sub [0, 1, 2, 3, 4, 5, 6, 7] (by decide) rfl) hS hX (va_free hD hS hA [0, 1, 2, 3, 4, 5, 6, 7] rfl)) rfl rfl hl.1 rfl (lv_room (Nat.le_of_ble_eq_true rfl)) d_L_turn_5 ⟨Nat.le_of_ble_eq_true rfl, Nat.le_of_ble_eq_true rfl⟩) hP hD hS hA (fun ce q9 H locs hP hD hS hce hv hcl => ?_)
    by_cases h2 : cd = 2
    · rw [if_pos h2] at hf
      subst h2
      refine vx_catch (own := R_L) (name := xn 2) hown [] ⟨0, 17, 20, 21⟩ [] (htab.trans rfl) (fun z hz => by cases hz) (by decide) (by decide) (hts _ cl_L_21) (tx_cast hX xc_2) hce hv hcl ?_
      refine lv_astore (lv' := [(4, .ref q9), (0, .ref (ad 0)), (1, .int p0), (2, .int p1), (3, .ref q)]) hx hb d_L_turn_20 hl (by decide) rfl (fun ls hl => ?_)
      refine lv_iconst (v := 1) hx hb d_L_turn_22 (by decide) ?_
      cases hf
      refine W.widen (k := 1) (n := 6) (Nat.le_of_ble_eq_true rfl) (Nat.le_of_ble_eq_true rfl) ?_
      exact W.iret (v := 1) hx hb hr (fun t ht hW => ⟨⟨1, (), rfl, rfl, by rw [ht]; exact hP, va_K.moved hW.alike hK, hD⟩, hS.F ht⟩) hS.2.2 d_L_turn_23
    · rw [if_neg h2] at hf
      cases hf
  · obtain ⟨o1, ho1, hf⟩ := fg_ob_some hf
    refine fgH_i (va_runV (As := [.int p0, .int p1]) (rest := [.int 0, .ref q]) ⟨hx, hb, hml, hown, hts⟩ (c_G_turn l dC dI cI cZ ad _ gB gE gC gO gn gF gL gV p0 p1 o1 ho1) (cwV 2 hts gv_L_17 rfl rfl rfl (by decide +kernel) ⟨Nat.le_of_ble_eq_true rfl, Nat.le_of_ble_eq_true rfl⟩) (gW_pre (A := A) hKc (hP.sub [0, 1, 2, 3, 4, 5, 6, 7] rfl) (hD.sub [0, 1, 2, 3, 4, 5, 6, 7] (by decide) rfl)) rfl rfl hl.1 rfl (lv_room (Nat.le_of_ble_eq_true rfl)) d_L_turn_5 ⟨Nat.le_of_ble_eq_true rfl, Nat.le_of_ble_eq_true rfl⟩) hP hD hS hA (fun H locs hP hD hS => ?_)
    refine lv_if_eq (tgt := 15) hx hb d_L_turn_8 (by decide) (fun hc => ?_) (fun hc => ?_)
    · rw [if_pos hc] at hf
      refine lv_lconst (v := 0) hx hb d_L_turn_15 (by decide) ?_
      refine va_last (i := 0) hx hb hK hP hD hS 8 2 rfl rfl (ix_in (i := 0) (n := 1) (by decide)) d_L_turn_16 (fun H locs hP hD hS => ?_)
      have hP : va_P (dC, dI) classes (hW cI cZ cJ ad q gB gE gC o1.2 gn gF gL gV (vp_updL w 0 0)) H := hP
      have hD : va_D A (hW cI cZ cJ ad q gB gE gC o1.2 gn gF gL gV (vp_updL w 0 0)) := hD
      refine lv_goto (tgt := 24) hx hb d_L_turn_17 (by decide) ?_
      refine lv_iconst (v := 0) hx hb d_L_turn_24 (by decide) ?_
      cases hf
      refine W.widen (k := 1) (n := 6) (Nat.le_of_ble_eq_true rfl) (Nat.le_of_ble_eq_true rfl) ?_
      exact W.iret (v := 0) hx hb hr (fun t ht hW => ⟨⟨0, (), rfl, rfl, by rw [ht]; exact hP, va_K.moved hW.alike hK, hD⟩, hS.F ht⟩) hS.2.2 d_L_turn_25
    · rw [if_neg hc] at hf
      refine lv_lconst (v := 1) hx hb d_L_turn_11 (by decide) ?_
      refine lv_goto (tgt := 16) hx hb d_L_turn_12 (by decide) ?_
      refine va_last (i := 0) hx hb hK hP hD hS 8 2 rfl rfl (ix_in (i := 0) (n := 1) (by decide)) d_L_turn_16 (fun H locs hP hD hS => ?_)
      have hP : va_P (dC, dI) classes (hW cI cZ cJ ad q gB gE gC o1.2 gn gF gL gV (vp_updL w 0 1)) H := hP
      have hD : va_D A (hW cI cZ cJ ad q gB gE gC o1.2 gn gF gL gV (vp_updL w 0 1)) := hD
      refine lv_goto (tgt := 24) hx hb d_L_turn_17 (by decide) ?_
      refine lv_iconst (v := 0) hx hb d_L_turn_24 (by decide) ?_
      cases hf
      refine W.widen (k := 1) (n := 6) (Nat.le_of_ble_eq_true rfl) (Nat.le_of_ble_eq_true rfl) ?_
      exact W.iret (v := 0) hx hb hr (fun t ht hW => ⟨⟨0, (), rfl, rfl, by rw [ht]; exact hP, va_K.moved hW.alike hK, hD⟩, hS.F ht⟩) hS.2.2 d_L_turn_25
set_option maxHeartbeats 4000000 in
set_option maxRecDepth 100000 in
theorem c_L_length (l : Launch) (hst : l.stackTraces = false) (f : Nat → Nat) (dC : Nat → ClassId) (dI : Nat → Nat → Nat) (cI cZ cJ : ClassId) (ad : Nat → Nat) (q : Nat) (sz : Nat) (gB : fg_A) (gE : fg_A) (gC : fg_A) (gO : fg_A) (gn : Int32) (gF : fg_A) (gL : fg_A) (gV : fg_A) (w : fg_J) (p0 : Int32) (p1 : Int32) (o : Int32 × fg_A × fg_J) (hf : h_length gB gE gO gn gF p0 p1 w = some o) : Met l y_L_length w_L_length rm_L_length (hW_Pc f dC dI cI cZ cJ ad q sz gB gE gC gO gn gF gL gV w [.ref (ad 0), .int p0, .int p1, .ref q]) (hW_Qi dC dI cI cZ cJ ad q (va_A (hW cI cZ cJ ad q gB gE gC gO gn gF gL gV w) sz) gB gE gC gO gn o.2.1 gL gV o.2.2 o.1) 1 6 (va_A (hW cI cZ cJ ad q gB gE gC gO gn gF gL gV w) sz) := by
  refine va_MetW (cc := b_L_length) (maxL := 5) (ret := some .int) (hh := hh_L_length) (by decide) rfl ?_
  intro p e s m args below meth c s₁ Bd hml hv
  obtain ⟨rfl, hsz, hP, hK, hD0, hX, hC⟩ := hv
  have hx := Bd.exec
  have hb := Bd.bytes
  have hr := Bd.returns
  have hts := fun w h => atoms_spec (ws := w_L_length) Bd.pre w (List.mem_cons_of_mem _ h)
  have htab := vx_table (x := y_L_length) Bd (atoms_spec (ws := w_L_length) Bd.pre _ List.mem_cons_self)
  have hown : s.vm.findClass R_L = some m.cls := findClass_of_methodNamed Bd.named
  have hlocks := Bd.notSynchronized
  subst hsz
  have hD := hD0.self (sz := s.heap.size)
  generalize hAe : va_A (hW cI cZ cJ ad q gB gE gC gO gn gF gL gV w) s.heap.size = A at hD hX ⊢
  have hA : ∀ z : Nat, s.heap.size ≤ z → A z := fun z h => by rw [← hAe]; exact Or.inr h
  have hS : va_S A s.heap s.heap [] := va_S.rf
  have hKc := hK.sub (tys' := gT cI cZ) [0, 1] rfl
  have hl := lv_entry ([.ref (ad 0), .int p0, .int p1, .ref q]) (n := 5) (Nat.le_of_ble_eq_true rfl)
  rw [lg_entry_eq]
  generalize (lg_sl ([.ref (ad 0), .int p0, .int p1, .ref q]) ++ List.replicate (5 - (lg_sl ([.ref (ad 0), .int p0, .int p1, .ref q])).length) Slot.unset).toArray = ls at hl ⊢
  have hl : lv_has ls 5 [(0, .ref (ad 0)), (1, .int p0), (2, .int p1), (3, .ref q)] := hl
  unfold h_length at hf
  refine lv_aload_n hx hb d_L_length_0 rfl (lv_at hl 3 rfl) ?_
  refine lv_iconst (v := 0) hx hb d_L_length_1 (by decide) ?_
  refine lv_aload_n hx hb d_L_length_2 rfl (lv_at hl 0 rfl) ?_
  refine lv_iload_n hx hb d_L_length_3 rfl (lv_at hl 1 rfl) ?_
  refine lv_iload_n hx hb d_L_length_4 rfl (lv_at hl 2 rfl) ?_
  rcases fg_oc_some hf with ⟨cd, hcd, hf⟩ | ⟨-, hf⟩
  · refine fgH_x (vx_runV (As := [.int p0, .int p1]) (rest := [.int 0, .ref q]) ⟨hx, hb, hml, hown, hts⟩ (ct_G_length l hst f dC dI cI cZ ad _ gB gE gC gO gn gF gL gV p0 p1 cd hcd) (cwV 2 hts gv_L_23 rfl rfl rfl (by decide +kernel) ⟨Nat.le_of_ble_eq_true rfl, Nat.le_of_ble_eq_true rfl⟩) (tG_pre (A1 := A) hKc (hP.sub [0, 1, 2, 3, 4, 5, 6, 7] rfl) (hD.sub [0, 1, 2, 3, 4, 5, 6, 7] (by decide) rfl) hS hX (va_free hD hS hA [0, 1, 2, 3, 4, 5, 6, 7] rfl)) rfl rfl hl.1 rfl (lv_room (Nat.le_of_ble_eq_true rfl)) d_L_length_5 ⟨Nat.le_of_ble_eq_true rfl, Nat.le_of_ble_eq_true rfl⟩) hP hD hS hA (fun ce q9 H locs hP hD hS hce hv hcl => ?_)
    by_cases h0 : cd = 0
    · rw [if_pos h0] at hf
      subst h0
      refine vx_catch (own := R_L) (name := xn 0) hown [] ⟨0, 10, 13, 13⟩ [] (htab.trans rfl) (fun z hz => by cases hz) (by decide) (by decide) (hts _ cl_L_13) (tx_cast hX xc_0) hce hv hcl ?_
      refine lv_astore (lv' := [(4, .ref q9), (0, .ref (ad 0)), (1, .int p0), (2, .int p1), (3, .ref q)]) hx hb d_L_length_13 hl (by decide) rfl (fun ls hl => ?_)
      refine lv_iconst (v := 1) hx hb d_L_length_15 (by decide) ?_
      cases hf
      refine W.widen (k := 1) (n := 6) (Nat.le_of_ble_eq_true rfl) (Nat.le_of_ble_eq_true rfl) ?_
      exact W.iret (v := 1) hx hb hr (fun t ht hW => ⟨⟨1, (), rfl, rfl, by rw [ht]; exact hP, va_K.moved hW.alike hK, hD⟩, hS.F ht⟩) hS.2.2 d_L_length_16
    · rw [if_neg h0] at hf
      cases hf
  · obtain ⟨o1, ho1, hf⟩ := fg_ob_some hf
    refine fgH_i (va_runV (As := [.int p0, .int p1]) (rest := [.int 0, .ref q]) ⟨hx, hb, hml, hown, hts⟩ (c_G_length l dC dI cI cZ ad _ gB gE gC gO gn gF gL gV p0 p1 o1 ho1) (cwV 2 hts gv_L_23 rfl rfl rfl (by decide +kernel) ⟨Nat.le_of_ble_eq_true rfl, Nat.le_of_ble_eq_true rfl⟩) (gW_pre (A := A) hKc (hP.sub [0, 1, 2, 3, 4, 5, 6, 7] rfl) (hD.sub [0, 1, 2, 3, 4, 5, 6, 7] (by decide) rfl)) rfl rfl hl.1 rfl (lv_room (Nat.le_of_ble_eq_true rfl)) d_L_length_5 ⟨Nat.le_of_ble_eq_true rfl, Nat.le_of_ble_eq_true rfl⟩) hP hD hS hA (fun H locs hP hD hS => ?_)
    refine lv_i2l hx hb d_L_length_8 rfl ?_
    refine va_last (i := 0) hx hb hK hP hD hS 8 2 rfl rfl (ix_in (i := 0) (n := 1) (by decide)) d_L_length_9 (fun H locs hP hD hS => ?_)
    have hP : va_P (dC, dI) classes (hW cI cZ cJ ad q gB gE gC gO gn o1.2 gL gV (vp_updL w 0 o1.1.toInt64)) H := hP
    have hD : va_D A (hW cI cZ cJ ad q gB gE gC gO gn o1.2 gL gV (vp_updL w 0 o1.1.toInt64)) := hD
    refine lv_goto (tgt := 17) hx hb d_L_length_10 (by decide) ?_
    refine lv_iconst (v := 0) hx hb d_L_length_17 (by decide) ?_
    cases hf
    refine W.widen (k := 1) (n := 6) (Nat.le_of_ble_eq_true rfl) (Nat.le_of_ble_eq_true rfl) ?_
    exact W.iret (v := 0) hx hb hr (fun t ht hW => ⟨⟨0, (), rfl, rfl, by rw [ht]; exact hP, va_K.moved hW.alike hK, hD⟩, hS.F ht⟩) hS.2.2 d_L_length_18
set_option maxHeartbeats 4000000 in
set_option maxRecDepth 100000 in
theorem c_L_step (l : Launch) (hst : l.stackTraces = false) (f : Nat → Nat) (dC : Nat → ClassId) (dI : Nat → Nat → Nat) (cI cZ cJ : ClassId) (ad : Nat → Nat) (q : Nat) (sz : Nat) (gB : fg_A) (gE : fg_A) (gC : fg_A) (gO : fg_A) (gn : Int32) (gF : fg_A) (gL : fg_A) (gV : fg_A) (w : fg_J) (p0 : Int32) (p1 : Int32) (p2 : Int32) (o : Int32 × fg_A × fg_J) (hf : h_step gB gE gO gn gF p0 p1 p2 w = some o) : Met l y_L_step w_L_step rm_L_step (hW_Pc f dC dI cI cZ cJ ad q sz gB gE gC gO gn gF gL gV w [.ref (ad 0), .int p0, .int p1, .int p2, .ref q]) (hW_Qi dC dI cI cZ cJ ad q (va_A (hW cI cZ cJ ad q gB gE gC gO gn gF gL gV w) sz) gB gE gC gO gn o.2.1 gL gV o.2.2 o.1) 1 6 (va_A (hW cI cZ cJ ad q gB gE gC gO gn gF gL gV w) sz) := by
  refine va_MetW (cc := b_L_step) (maxL := 6) (ret := some .int) (hh := hh_L_step) (by decide) rfl ?_
  intro p e s m args below meth c s₁ Bd hml hv
  obtain ⟨rfl, hsz, hP, hK, hD0, hX, hC⟩ := hv
  have hx := Bd.exec
  have hb := Bd.bytes
  have hr := Bd.returns
  have hts := fun w h => atoms_spec (ws := w_L_step) Bd.pre w (List.mem_cons_of_mem _ h)
  have htab := vx_table (x := y_L_step) Bd (atoms_spec (ws := w_L_step) Bd.pre _ List.mem_cons_self)
  have hown : s.vm.findClass R_L = some m.cls := findClass_of_methodNamed Bd.named
  have hlocks := Bd.notSynchronized
  subst hsz
  have hD := hD0.self (sz := s.heap.size)
  generalize hAe : va_A (hW cI cZ cJ ad q gB gE gC gO gn gF gL gV w) s.heap.size = A at hD hX ⊢
  have hA : ∀ z : Nat, s.heap.size ≤ z → A z := fun z h => by rw [← hAe]; exact Or.inr h
  have hS : va_S A s.heap s.heap [] := va_S.rf
  have hKc := hK.sub (tys' := gT cI cZ) [0, 1] rfl
  have hl := lv_entry ([.ref (ad 0), .int p0, .int p1, .int p2, .ref q]) (n := 6) (Nat.le_of_ble_eq_true rfl)
  rw [lg_entry_eq]
  generalize (lg_sl ([.ref (ad 0), .int p0, .int p1, .int p2, .ref q]) ++ List.replicate (6 - (lg_sl ([.ref (ad 0), .int p0, .int p1, .int p2, .ref q])).length) Slot.unset).toArray = ls at hl ⊢
  have hl : lv_has ls 6 [(0, .ref (ad 0)), (1, .int p0), (2, .int p1), (3, .int p2), (4, .ref q)] := hl
  unfold h_step at hf
  refine lv_aload hx hb d_L_step_0 (lv_at hl 4 rfl) ?_
  refine lv_iconst (v := 0) hx hb d_L_step_2 (by decide) ?_
  refine lv_aload_n hx hb d_L_step_3 rfl (lv_at hl 0 rfl) ?_
  refine lv_iload_n hx hb d_L_step_4 rfl (lv_at hl 1 rfl) ?_
  refine lv_iload_n hx hb d_L_step_5 rfl (lv_at hl 2 rfl) ?_
  refine lv_iload_n hx hb d_L_step_6 rfl (lv_at hl 3 rfl) ?_
  rcases fg_oc_some hf with ⟨⟨cd, F9⟩, hcd, hf⟩ | ⟨-, hf⟩
  · refine fgH_x (vx_runV (As := [.int p0, .int p1, .int p2]) (rest := [.int 0, .ref q]) ⟨hx, hb, hml, hown, hts⟩ (ct_G_step l hst f dC dI cI cZ ad _ gB gE gC gO gn gF gL gV p0 p1 p2 (cd, F9) hcd) (cwV 3 hts gv_L_27 rfl rfl rfl (by decide +kernel) ⟨Nat.le_of_ble_eq_true rfl, Nat.le_of_ble_eq_true rfl⟩) (tG_pre (A1 := A) hKc (hP.sub [0, 1, 2, 3, 4, 5, 6, 7] rfl) (hD.sub [0, 1, 2, 3, 4, 5, 6, 7] (by decide) rfl) hS hX (va_free hD hS hA [0, 1, 2, 3, 4, 5, 6, 7] rfl)) rfl rfl hl.1 rfl (lv_room (Nat.le_of_ble_eq_true rfl)) d_L_step_7 ⟨Nat.le_of_ble_eq_true rfl, Nat.le_of_ble_eq_true rfl⟩) hP hD hS hA (fun ce q9 H locs hP hD hS hce hv hcl => ?_)
    dsimp only at hf hP hD hcl
    by_cases h0 : cd = 0
    · rw [if_pos h0] at hf
      subst h0
      refine vx_catch (own := R_L) (name := xn 0) hown [] ⟨0, 12, 15, 13⟩ [⟨0, 12, 19, 21⟩] (htab.trans rfl) (fun z hz => by cases hz) (by decide) (by decide) (hts _ cl_L_13) (tx_cast hX xc_0) hce hv hcl ?_
      refine lv_astore (lv' := [(5, .ref q9), (0, .ref (ad 0)), (1, .int p0), (2, .int p1), (3, .int p2), (4, .ref q)]) hx hb d_L_step_15 hl (by decide) rfl (fun ls hl => ?_)
      refine lv_iconst (v := 1) hx hb d_L_step_17 (by decide) ?_
      cases hf
      refine W.widen (k := 1) (n := 6) (Nat.le_of_ble_eq_true rfl) (Nat.le_of_ble_eq_true rfl) ?_
      exact W.iret (v := 1) hx hb hr (fun t ht hW => ⟨⟨1, (), rfl, rfl, by rw [ht]; exact hP, va_K.moved hW.alike hK, hD⟩, hS.F ht⟩) hS.2.2 d_L_step_18
    · by_cases h2 : cd = 2
      · rw [if_neg h0, if_pos h2] at hf
        subst h2
        refine vx_catch (own := R_L) (name := xn 2) hown [⟨0, 12, 15, 13⟩] ⟨0, 12, 19, 21⟩ [] (htab.trans rfl) (fun z hz => by rcases List.mem_singleton.mp hz with rfl; exact Or.inr ⟨by decide, xn 0, hts _ cl_L_13, hC.2⟩) (by decide) (by decide) (hts _ cl_L_21) (tx_cast hX xc_2) hce hv hcl ?_
        refine lv_astore (lv' := [(5, .ref q9), (0, .ref (ad 0)), (1, .int p0), (2, .int p1), (3, .int p2), (4, .ref q)]) hx hb d_L_step_19 hl (by decide) rfl (fun ls hl => ?_)
        refine lv_iconst (v := 2) hx hb d_L_step_21 (by decide) ?_
        cases hf
        refine W.widen (k := 1) (n := 6) (Nat.le_of_ble_eq_true rfl) (Nat.le_of_ble_eq_true rfl) ?_
        exact W.iret (v := 2) hx hb hr (fun t ht hW => ⟨⟨2, (), rfl, rfl, by rw [ht]; exact hP, va_K.moved hW.alike hK, hD⟩, hS.F ht⟩) hS.2.2 d_L_step_22
      · rw [if_neg h0, if_neg h2] at hf
        cases hf
  · obtain ⟨o1, ho1, hf⟩ := fg_ob_some hf
    refine fgH_i (va_runV (As := [.int p0, .int p1, .int p2]) (rest := [.int 0, .ref q]) ⟨hx, hb, hml, hown, hts⟩ (c_G_step l dC dI cI cZ ad _ gB gE gC gO gn gF gL gV p0 p1 p2 o1 ho1) (cwV 3 hts gv_L_27 rfl rfl rfl (by decide +kernel) ⟨Nat.le_of_ble_eq_true rfl, Nat.le_of_ble_eq_true rfl⟩) (gW_pre (A := A) hKc (hP.sub [0, 1, 2, 3, 4, 5, 6, 7] rfl) (hD.sub [0, 1, 2, 3, 4, 5, 6, 7] (by decide) rfl)) rfl rfl hl.1 rfl (lv_room (Nat.le_of_ble_eq_true rfl)) d_L_step_7 ⟨Nat.le_of_ble_eq_true rfl, Nat.le_of_ble_eq_true rfl⟩) hP hD hS hA (fun H locs hP hD hS => ?_)
    refine lv_i2l hx hb d_L_step_10 rfl ?_
    refine va_last (i := 0) hx hb hK hP hD hS 8 2 rfl rfl (ix_in (i := 0) (n := 1) (by decide)) d_L_step_11 (fun H locs hP hD hS => ?_)
    have hP : va_P (dC, dI) classes (hW cI cZ cJ ad q gB gE gC gO gn o1.2 gL gV (vp_updL w 0 o1.1.toInt64)) H := hP
    have hD : va_D A (hW cI cZ cJ ad q gB gE gC gO gn o1.2 gL gV (vp_updL w 0 o1.1.toInt64)) := hD
    refine lv_goto (tgt := 23) hx hb d_L_step_12 (by decide) ?_
    refine lv_iconst (v := 0) hx hb d_L_step_23 (by decide) ?_
    cases hf
    refine W.widen (k := 1) (n := 6) (Nat.le_of_ble_eq_true rfl) (Nat.le_of_ble_eq_true rfl) ?_
    exact W.iret (v := 0) hx hb hr (fun t ht hW => ⟨⟨0, (), rfl, rfl, by rw [ht]; exact hP, va_K.moved hW.alike hK, hD⟩, hS.F ht⟩) hS.2.2 d_L_step_24
set_option maxHeartbeats 4000000 in
set_option maxRecDepth 100000 in
theorem c_L_passed (l : Launch) (hst : l.stackTraces = false) (f : Nat → Nat) (dC : Nat → ClassId) (dI : Nat → Nat → Nat) (cI cZ cJ : ClassId) (ad : Nat → Nat) (q : Nat) (sz : Nat) (gB : fg_A) (gE : fg_A) (gC : fg_A) (gO : fg_A) (gn : Int32) (gF : fg_A) (gL : fg_A) (gV : fg_A) (w : fg_J) (p0 : Int32) (p1 : Int32) (o : Int32 × fg_J) (hf : h_passed gB gE gO gn p0 p1 w = some o) : Met l y_L_passed w_L_passed rm_L_passed (hW_Pc f dC dI cI cZ cJ ad q sz gB gE gC gO gn gF gL gV w [.ref (ad 0), .int p0, .int p1, .ref q]) (hW_Qi dC dI cI cZ cJ ad q (va_A (hW cI cZ cJ ad q gB gE gC gO gn gF gL gV w) sz) gB gE gC gO gn gF gL gV o.2 o.1) 1 6 (va_A (hW cI cZ cJ ad q gB gE gC gO gn gF gL gV w) sz) := by
  refine va_MetW (cc := b_L_passed) (maxL := 5) (ret := some .int) (hh := hh_L_passed) (by decide) rfl ?_
  intro p e s m args below meth c s₁ Bd hml hv
  obtain ⟨rfl, hsz, hP, hK, hD0, hX, hC⟩ := hv
  have hx := Bd.exec
  have hb := Bd.bytes
  have hr := Bd.returns
  have hts := fun w h => atoms_spec (ws := w_L_passed) Bd.pre w (List.mem_cons_of_mem _ h)
  have htab := vx_table (x := y_L_passed) Bd (atoms_spec (ws := w_L_passed) Bd.pre _ List.mem_cons_self)
  have hown : s.vm.findClass R_L = some m.cls := findClass_of_methodNamed Bd.named
  have hlocks := Bd.notSynchronized
  subst hsz
  have hD := hD0.self (sz := s.heap.size)
  generalize hAe : va_A (hW cI cZ cJ ad q gB gE gC gO gn gF gL gV w) s.heap.size = A at hD hX ⊢
  have hA : ∀ z : Nat, s.heap.size ≤ z → A z := fun z h => by rw [← hAe]; exact Or.inr h
  have hS : va_S A s.heap s.heap [] := va_S.rf
  have hKc := hK.sub (tys' := gT cI cZ) [0, 1] rfl
  have hl := lv_entry ([.ref (ad 0), .int p0, .int p1, .ref q]) (n := 5) (Nat.le_of_ble_eq_true rfl)
  rw [lg_entry_eq]
  generalize (lg_sl ([.ref (ad 0), .int p0, .int p1, .ref q]) ++ List.replicate (5 - (lg_sl ([.ref (ad 0), .int p0, .int p1, .ref q])).length) Slot.unset).toArray = ls at hl ⊢
  have hl : lv_has ls 5 [(0, .ref (ad 0)), (1, .int p0), (2, .int p1), (3, .ref q)] := hl
  unfold h_passed at hf
  refine lv_aload_n hx hb d_L_passed_0 rfl (lv_at hl 3 rfl) ?_
  refine lv_iconst (v := 0) hx hb d_L_passed_1 (by decide) ?_
  refine lv_aload_n hx hb d_L_passed_2 rfl (lv_at hl 0 rfl) ?_
  refine lv_iload_n hx hb d_L_passed_3 rfl (lv_at hl 1 rfl) ?_
  refine lv_iload_n hx hb d_L_passed_4 rfl (lv_at hl 2 rfl) ?_
  rcases fg_oc_some hf with ⟨cd, hcd, hf⟩ | ⟨-, hf⟩
  · refine fgH_x (vx_runV (As := [.int p0, .int p1]) (rest := [.int 0, .ref q]) ⟨hx, hb, hml, hown, hts⟩ (ct_G_passed l hst f dC dI cI cZ ad _ gB gE gC gO gn gF gL gV p0 p1 cd hcd) (cwV 2 hts gv_L_30 rfl rfl rfl (by decide +kernel) ⟨Nat.le_of_ble_eq_true rfl, Nat.le_of_ble_eq_true rfl⟩) (tG_pre (A1 := A) hKc (hP.sub [0, 1, 2, 3, 4, 5, 6, 7] rfl) (hD.sub [0, 1, 2, 3, 4, 5, 6, 7] (by decide) rfl) hS hX (va_free hD hS hA [0, 1, 2, 3, 4, 5, 6, 7] rfl)) rfl rfl hl.1 rfl (lv_room (Nat.le_of_ble_eq_true rfl)) d_L_passed_5 ⟨Nat.le_of_ble_eq_true rfl, Nat.le_of_ble_eq_true rfl⟩) hP hD hS hA (fun ce q9 H locs hP hD hS hce hv hcl => ?_)
    by_cases h0 : cd = 0
    · rw [if_pos h0] at hf
      subst h0
      refine vx_catch (own := R_L) (name := xn 0) hown [] ⟨0, 10, 13, 13⟩ [] (htab.trans rfl) (fun z hz => by cases hz) (by decide) (by decide) (hts _ cl_L_13) (tx_cast hX xc_0) hce hv hcl ?_
      refine lv_astore (lv' := [(4, .ref q9), (0, .ref (ad 0)), (1, .int p0), (2, .int p1), (3, .ref q)]) hx hb d_L_passed_13 hl (by decide) rfl (fun ls hl => ?_)
      refine lv_iconst (v := 1) hx hb d_L_passed_15 (by decide) ?_
      cases hf
      refine W.widen (k := 1) (n := 6) (Nat.le_of_ble_eq_true rfl) (Nat.le_of_ble_eq_true rfl) ?_
      exact W.iret (v := 1) hx hb hr (fun t ht hW => ⟨⟨1, (), rfl, rfl, by rw [ht]; exact hP, va_K.moved hW.alike hK, hD⟩, hS.F ht⟩) hS.2.2 d_L_passed_16
    · rw [if_neg h0] at hf
      cases hf
  · obtain ⟨o1, ho1, hf⟩ := fg_ob_some hf
    refine fgH_i (va_runV (As := [.int p0, .int p1]) (rest := [.int 0, .ref q]) ⟨hx, hb, hml, hown, hts⟩ (c_G_passed l dC dI cI cZ ad _ gB gE gC gO gn gF gL gV p0 p1 o1 ho1) (cwV 2 hts gv_L_30 rfl rfl rfl (by decide +kernel) ⟨Nat.le_of_ble_eq_true rfl, Nat.le_of_ble_eq_true rfl⟩) (gW_pre (A := A) hKc (hP.sub [0, 1, 2, 3, 4, 5, 6, 7] rfl) (hD.sub [0, 1, 2, 3, 4, 5, 6, 7] (by decide) rfl)) rfl rfl hl.1 rfl (lv_room (Nat.le_of_ble_eq_true rfl)) d_L_passed_5 ⟨Nat.le_of_ble_eq_true rfl, Nat.le_of_ble_eq_true rfl⟩) hP hD hS hA (fun H locs hP hD hS => ?_)
    refine lv_i2l hx hb d_L_passed_8 rfl ?_
    refine va_last (i := 0) hx hb hK hP hD hS 8 2 rfl rfl (ix_in (i := 0) (n := 1) (by decide)) d_L_passed_9 (fun H locs hP hD hS => ?_)
    have hP : va_P (dC, dI) classes (hW cI cZ cJ ad q gB gE gC gO gn gF gL gV (vp_updL w 0 o1.toInt64)) H := hP
    have hD : va_D A (hW cI cZ cJ ad q gB gE gC gO gn gF gL gV (vp_updL w 0 o1.toInt64)) := hD
    refine lv_goto (tgt := 17) hx hb d_L_passed_10 (by decide) ?_
    refine lv_iconst (v := 0) hx hb d_L_passed_17 (by decide) ?_
    cases hf
    refine W.widen (k := 1) (n := 6) (Nat.le_of_ble_eq_true rfl) (Nat.le_of_ble_eq_true rfl) ?_
    exact W.iret (v := 0) hx hb hr (fun t ht hW => ⟨⟨0, (), rfl, rfl, by rw [ht]; exact hP, va_K.moved hW.alike hK, hD⟩, hS.F ht⟩) hS.2.2 d_L_passed_18
set_option maxHeartbeats 4000000 in
set_option maxRecDepth 100000 in
theorem c_L_circle (l : Launch) (hst : l.stackTraces = false) (f : Nat → Nat) (dC : Nat → ClassId) (dI : Nat → Nat → Nat) (cI cZ cJ : ClassId) (ad : Nat → Nat) (q : Nat) (sz : Nat) (gB : fg_A) (gE : fg_A) (gC : fg_A) (gO : fg_A) (gn : Int32) (gF : fg_A) (gL : fg_A) (gV : fg_A) (w : fg_J) (p0 : Int32) (o : Int32 × fg_J) (hf : h_circle gB gE gO gn p0 w = some o) : Met l y_L_circle w_L_circle rm_L_circle (hW_Pc f dC dI cI cZ cJ ad q sz gB gE gC gO gn gF gL gV w [.ref (ad 0), .int p0, .ref q]) (hW_Qi dC dI cI cZ cJ ad q (va_A (hW cI cZ cJ ad q gB gE gC gO gn gF gL gV w) sz) gB gE gC gO gn gF gL gV o.2 o.1) 1 6 (va_A (hW cI cZ cJ ad q gB gE gC gO gn gF gL gV w) sz) := by
  refine va_MetW (cc := b_L_circle) (maxL := 4) (ret := some .int) (hh := hh_L_circle) (by decide) rfl ?_
  intro p e s m args below meth c s₁ Bd hml hv
  obtain ⟨rfl, hsz, hP, hK, hD0, hX, hC⟩ := hv
  have hx := Bd.exec
  have hb := Bd.bytes
  have hr := Bd.returns
  have hts := fun w h => atoms_spec (ws := w_L_circle) Bd.pre w (List.mem_cons_of_mem _ h)
  have htab := vx_table (x := y_L_circle) Bd (atoms_spec (ws := w_L_circle) Bd.pre _ List.mem_cons_self)
  have hown : s.vm.findClass R_L = some m.cls := findClass_of_methodNamed Bd.named
  have hlocks := Bd.notSynchronized
  subst hsz
  have hD := hD0.self (sz := s.heap.size)
  generalize hAe : va_A (hW cI cZ cJ ad q gB gE gC gO gn gF gL gV w) s.heap.size = A at hD hX ⊢
  have hA : ∀ z : Nat, s.heap.size ≤ z → A z := fun z h => by rw [← hAe]; exact Or.inr h
  have hS : va_S A s.heap s.heap [] := va_S.rf
  have hKc := hK.sub (tys' := gT cI cZ) [0, 1] rfl
  have hl := lv_entry ([.ref (ad 0), .int p0, .ref q]) (n := 4) (Nat.le_of_ble_eq_true rfl)
  rw [lg_entry_eq]
  generalize (lg_sl ([.ref (ad 0), .int p0, .ref q]) ++ List.replicate (4 - (lg_sl ([.ref (ad 0), .int p0, .ref q])).length) Slot.unset).toArray = ls at hl ⊢
  have hl : lv_has ls 4 [(0, .ref (ad 0)), (1, .int p0), (2, .ref q)] := hl
  unfold h_circle at hf
  refine lv_aload_n hx hb d_L_circle_0 rfl (lv_at hl 2 rfl) ?_
  refine lv_iconst (v := 0) hx hb d_L_circle_1 (by decide) ?_
  refine lv_aload_n hx hb d_L_circle_2 rfl (lv_at hl 0 rfl) ?_
  refine lv_iload_n hx hb d_L_circle_3 rfl (lv_at hl 1 rfl) ?_
  rcases fg_oc_some hf with ⟨cd, hcd, hf⟩ | ⟨-, hf⟩
  · refine fgH_x (vx_runV (As := [.int p0]) (rest := [.int 0, .ref q]) ⟨hx, hb, hml, hown, hts⟩ (ct_G_circle l hst f dC dI cI cZ ad _ gB gE gC gO gn gF gL gV p0 cd hcd) (cwV 1 hts gv_L_33 rfl rfl rfl (by decide +kernel) ⟨Nat.le_of_ble_eq_true rfl, Nat.le_of_ble_eq_true rfl⟩) (tG_pre (A1 := A) hKc (hP.sub [0, 1, 2, 3, 4, 5, 6, 7] rfl) (hD.sub [0, 1, 2, 3, 4, 5, 6, 7] (by decide) rfl) hS hX (va_free hD hS hA [0, 1, 2, 3, 4, 5, 6, 7] rfl)) rfl rfl hl.1 rfl (lv_room (Nat.le_of_ble_eq_true rfl)) d_L_circle_4 ⟨Nat.le_of_ble_eq_true rfl, Nat.le_of_ble_eq_true rfl⟩) hP hD hS hA (fun ce q9 H locs hP hD hS hce hv hcl => ?_)
    by_cases h0 : cd = 0
    · rw [if_pos h0] at hf
      subst h0
      refine vx_catch (own := R_L) (name := xn 0) hown [] ⟨0, 9, 12, 13⟩ [] (htab.trans rfl) (fun z hz => by cases hz) (by decide) (by decide) (hts _ cl_L_13) (tx_cast hX xc_0) hce hv hcl ?_
      refine lv_astore_n (lv' := [(3, .ref q9), (0, .ref (ad 0)), (1, .int p0), (2, .ref q)]) hx hb d_L_circle_12 rfl hl (by decide) rfl (fun ls hl => ?_)
      refine lv_iconst (v := 1) hx hb d_L_circle_13 (by decide) ?_
      cases hf
      refine W.widen (k := 1) (n := 6) (Nat.le_of_ble_eq_true rfl) (Nat.le_of_ble_eq_true rfl) ?_
      exact W.iret (v := 1) hx hb hr (fun t ht hW => ⟨⟨1, (), rfl, rfl, by rw [ht]; exact hP, va_K.moved hW.alike hK, hD⟩, hS.F ht⟩) hS.2.2 d_L_circle_14
    · rw [if_neg h0] at hf
      cases hf
  · obtain ⟨o1, ho1, hf⟩ := fg_ob_some hf
    refine fgH_i (va_runV (As := [.int p0]) (rest := [.int 0, .ref q]) ⟨hx, hb, hml, hown, hts⟩ (c_G_circle l dC dI cI cZ ad _ gB gE gC gO gn gF gL gV p0 o1 ho1) (cwV 1 hts gv_L_33 rfl rfl rfl (by decide +kernel) ⟨Nat.le_of_ble_eq_true rfl, Nat.le_of_ble_eq_true rfl⟩) (gW_pre (A := A) hKc (hP.sub [0, 1, 2, 3, 4, 5, 6, 7] rfl) (hD.sub [0, 1, 2, 3, 4, 5, 6, 7] (by decide) rfl)) rfl rfl hl.1 rfl (lv_room (Nat.le_of_ble_eq_true rfl)) d_L_circle_4 ⟨Nat.le_of_ble_eq_true rfl, Nat.le_of_ble_eq_true rfl⟩) hP hD hS hA (fun H locs hP hD hS => ?_)
    refine lv_i2l hx hb d_L_circle_7 rfl ?_
    refine va_last (i := 0) hx hb hK hP hD hS 8 2 rfl rfl (ix_in (i := 0) (n := 1) (by decide)) d_L_circle_8 (fun H locs hP hD hS => ?_)
    have hP : va_P (dC, dI) classes (hW cI cZ cJ ad q gB gE gC gO gn gF gL gV (vp_updL w 0 o1.toInt64)) H := hP
    have hD : va_D A (hW cI cZ cJ ad q gB gE gC gO gn gF gL gV (vp_updL w 0 o1.toInt64)) := hD
    refine lv_goto (tgt := 15) hx hb d_L_circle_9 (by decide) ?_
    refine lv_iconst (v := 0) hx hb d_L_circle_15 (by decide) ?_
    cases hf
    refine W.widen (k := 1) (n := 6) (Nat.le_of_ble_eq_true rfl) (Nat.le_of_ble_eq_true rfl) ?_
    exact W.iret (v := 0) hx hb hr (fun t ht hW => ⟨⟨0, (), rfl, rfl, by rw [ht]; exact hP, va_K.moved hW.alike hK, hD⟩, hS.F ht⟩) hS.2.2 d_L_circle_16
set_option maxHeartbeats 4000000 in
set_option maxRecDepth 100000 in
theorem c_L_cut (l : Launch) (hst : l.stackTraces = false) (f : Nat → Nat) (dC : Nat → ClassId) (dI : Nat → Nat → Nat) (cI cZ cJ : ClassId) (ad : Nat → Nat) (q : Nat) (sz : Nat) (gB : fg_A) (gE : fg_A) (gC : fg_A) (gO : fg_A) (gn : Int32) (gF : fg_A) (gL : fg_A) (gV : fg_A) (w : fg_J) (p0 : Int32) (p1 : Int32) (o : Int32 × fg_A × fg_A × fg_J) (hf : h_cut gB gE gC gO gn gL gV p0 p1 w = some o) : Met l y_L_cut w_L_cut rm_L_cut (hW_Pc f dC dI cI cZ cJ ad q sz gB gE gC gO gn gF gL gV w [.ref (ad 0), .int p0, .int p1, .ref q]) (hW_Qi dC dI cI cZ cJ ad q (va_A (hW cI cZ cJ ad q gB gE gC gO gn gF gL gV w) sz) gB gE gC gO gn gF o.2.1 o.2.2.1 o.2.2.2 o.1) 1 6 (va_A (hW cI cZ cJ ad q gB gE gC gO gn gF gL gV w) sz) := by
  refine va_MetW (cc := b_L_cut) (maxL := 5) (ret := some .int) (hh := hh_L_cut) (by decide) rfl ?_
  intro p e s m args below meth c s₁ Bd hml hv
  obtain ⟨rfl, hsz, hP, hK, hD0, hX, hC⟩ := hv
  have hx := Bd.exec
  have hb := Bd.bytes
  have hr := Bd.returns
  have hts := fun w h => atoms_spec (ws := w_L_cut) Bd.pre w (List.mem_cons_of_mem _ h)
  have htab := vx_table (x := y_L_cut) Bd (atoms_spec (ws := w_L_cut) Bd.pre _ List.mem_cons_self)
  have hown : s.vm.findClass R_L = some m.cls := findClass_of_methodNamed Bd.named
  have hlocks := Bd.notSynchronized
  subst hsz
  have hD := hD0.self (sz := s.heap.size)
  generalize hAe : va_A (hW cI cZ cJ ad q gB gE gC gO gn gF gL gV w) s.heap.size = A at hD hX ⊢
  have hA : ∀ z : Nat, s.heap.size ≤ z → A z := fun z h => by rw [← hAe]; exact Or.inr h
  have hS : va_S A s.heap s.heap [] := va_S.rf
  have hKc := hK.sub (tys' := gT cI cZ) [0, 1] rfl
  have hl := lv_entry ([.ref (ad 0), .int p0, .int p1, .ref q]) (n := 5) (Nat.le_of_ble_eq_true rfl)
  rw [lg_entry_eq]
  generalize (lg_sl ([.ref (ad 0), .int p0, .int p1, .ref q]) ++ List.replicate (5 - (lg_sl ([.ref (ad 0), .int p0, .int p1, .ref q])).length) Slot.unset).toArray = ls at hl ⊢
  have hl : lv_has ls 5 [(0, .ref (ad 0)), (1, .int p0), (2, .int p1), (3, .ref q)] := hl
  unfold h_cut at hf
  refine lv_aload_n hx hb d_L_cut_0 rfl (lv_at hl 3 rfl) ?_
  refine lv_iconst (v := 0) hx hb d_L_cut_1 (by decide) ?_
  refine lv_aload_n hx hb d_L_cut_2 rfl (lv_at hl 0 rfl) ?_
  refine lv_iload_n hx hb d_L_cut_3 rfl (lv_at hl 1 rfl) ?_
  refine lv_iload_n hx hb d_L_cut_4 rfl (lv_at hl 2 rfl) ?_
  rcases fg_oc_some hf with ⟨cd, hcd, hf⟩ | ⟨-, hf⟩
  · refine fgH_x (vx_runV (As := [.int p0, .int p1]) (rest := [.int 0, .ref q]) ⟨hx, hb, hml, hown, hts⟩ (ct_G_cut l hst f dC dI cI cZ ad _ gB gE gC gO gn gF gL gV p0 p1 cd hcd) (cwV 2 hts gv_L_37 rfl rfl rfl (by decide +kernel) ⟨Nat.le_of_ble_eq_true rfl, Nat.le_of_ble_eq_true rfl⟩) (tG_pre (A1 := A) hKc (hP.sub [0, 1, 2, 3, 4, 5, 6, 7] rfl) (hD.sub [0, 1, 2, 3, 4, 5, 6, 7] (by decide) rfl) hS hX (va_free hD hS hA [0, 1, 2, 3, 4, 5, 6, 7] rfl)) rfl rfl hl.1 rfl (lv_room (Nat.le_of_ble_eq_true rfl)) d_L_cut_5 ⟨Nat.le_of_ble_eq_true rfl, Nat.le_of_ble_eq_true rfl⟩) hP hD hS hA (fun ce q9 H locs hP hD hS hce hv hcl => ?_)
    by_cases h0 : cd = 0
    · rw [if_pos h0] at hf
      subst h0
      refine vx_catch (own := R_L) (name := xn 0) hown [] ⟨0, 10, 13, 13⟩ [] (htab.trans rfl) (fun z hz => by cases hz) (by decide) (by decide) (hts _ cl_L_13) (tx_cast hX xc_0) hce hv hcl ?_
      refine lv_astore (lv' := [(4, .ref q9), (0, .ref (ad 0)), (1, .int p0), (2, .int p1), (3, .ref q)]) hx hb d_L_cut_13 hl (by decide) rfl (fun ls hl => ?_)
      refine lv_iconst (v := 1) hx hb d_L_cut_15 (by decide) ?_
      cases hf
      refine W.widen (k := 1) (n := 6) (Nat.le_of_ble_eq_true rfl) (Nat.le_of_ble_eq_true rfl) ?_
      exact W.iret (v := 1) hx hb hr (fun t ht hW => ⟨⟨1, (), rfl, rfl, by rw [ht]; exact hP, va_K.moved hW.alike hK, hD⟩, hS.F ht⟩) hS.2.2 d_L_cut_16
    · rw [if_neg h0] at hf
      cases hf
  · obtain ⟨o1, ho1, hf⟩ := fg_ob_some hf
    refine fgH_i (va_runV (As := [.int p0, .int p1]) (rest := [.int 0, .ref q]) ⟨hx, hb, hml, hown, hts⟩ (c_G_cut l dC dI cI cZ ad _ gB gE gC gO gn gF gL gV p0 p1 o1 ho1) (cwV 2 hts gv_L_37 rfl rfl rfl (by decide +kernel) ⟨Nat.le_of_ble_eq_true rfl, Nat.le_of_ble_eq_true rfl⟩) (gW_pre (A := A) hKc (hP.sub [0, 1, 2, 3, 4, 5, 6, 7] rfl) (hD.sub [0, 1, 2, 3, 4, 5, 6, 7] (by decide) rfl)) rfl rfl hl.1 rfl (lv_room (Nat.le_of_ble_eq_true rfl)) d_L_cut_5 ⟨Nat.le_of_ble_eq_true rfl, Nat.le_of_ble_eq_true rfl⟩) hP hD hS hA (fun H locs hP hD hS => ?_)
    refine lv_i2l hx hb d_L_cut_8 rfl ?_
    refine va_last (i := 0) hx hb hK hP hD hS 8 2 rfl rfl (ix_in (i := 0) (n := 1) (by decide)) d_L_cut_9 (fun H locs hP hD hS => ?_)
    have hP : va_P (dC, dI) classes (hW cI cZ cJ ad q gB gE gC gO gn gF o1.2.1 o1.2.2 (vp_updL w 0 o1.1.toInt64)) H := hP
    have hD : va_D A (hW cI cZ cJ ad q gB gE gC gO gn gF o1.2.1 o1.2.2 (vp_updL w 0 o1.1.toInt64)) := hD
    refine lv_goto (tgt := 17) hx hb d_L_cut_10 (by decide) ?_
    refine lv_iconst (v := 0) hx hb d_L_cut_17 (by decide) ?_
    cases hf
    refine W.widen (k := 1) (n := 6) (Nat.le_of_ble_eq_true rfl) (Nat.le_of_ble_eq_true rfl) ?_
    exact W.iret (v := 0) hx hb hr (fun t ht hW => ⟨⟨0, (), rfl, rfl, by rw [ht]; exact hP, va_K.moved hW.alike hK, hD⟩, hS.F ht⟩) hS.2.2 d_L_cut_18
set_option maxHeartbeats 4000000 in
set_option maxRecDepth 100000 in
theorem c_L_cutRule (l : Launch) (hst : l.stackTraces = false) (f : Nat → Nat) (dC : Nat → ClassId) (dI : Nat → Nat → Nat) (cI cZ cJ : ClassId) (ad : Nat → Nat) (q : Nat) (sz : Nat) (gB : fg_A) (gE : fg_A) (gC : fg_A) (gO : fg_A) (gn : Int32) (gF : fg_A) (gL : fg_A) (gV : fg_A) (w : fg_J) (p0 : Int32) (p1 : Int32) (p2 : Int32) (o : Int32 × fg_A × fg_A × fg_J) (hf : h_cutRule gB gE gC gO gn gL gV p0 p1 p2 w = some o) : Met l y_L_cutRule w_L_cutRule rm_L_cutRule (hW_Pc f dC dI cI cZ cJ ad q sz gB gE gC gO gn gF gL gV w [.ref (ad 0), .int p0, .int p1, .int p2, .ref q]) (hW_Qi dC dI cI cZ cJ ad q (va_A (hW cI cZ cJ ad q gB gE gC gO gn gF gL gV w) sz) gB gE gC gO gn gF o.2.1 o.2.2.1 o.2.2.2 o.1) 1 6 (va_A (hW cI cZ cJ ad q gB gE gC gO gn gF gL gV w) sz) := by
  refine va_MetW (cc := b_L_cutRule) (maxL := 6) (ret := some .int) (hh := hh_L_cutRule) (by decide) rfl ?_
  intro p e s m args below meth c s₁ Bd hml hv
  obtain ⟨rfl, hsz, hP, hK, hD0, hX, hC⟩ := hv
  have hx := Bd.exec
  have hb := Bd.bytes
  have hr := Bd.returns
  have hts := fun w h => atoms_spec (ws := w_L_cutRule) Bd.pre w (List.mem_cons_of_mem _ h)
  have htab := vx_table (x := y_L_cutRule) Bd (atoms_spec (ws := w_L_cutRule) Bd.pre _ List.mem_cons_self)
  have hown : s.vm.findClass R_L = some m.cls := findClass_of_methodNamed Bd.named
  have hlocks := Bd.notSynchronized
  subst hsz
  have hD := hD0.self (sz := s.heap.size)
  generalize hAe : va_A (hW cI cZ cJ ad q gB gE gC gO gn gF gL gV w) s.heap.size = A at hD hX ⊢
  have hA : ∀ z : Nat, s.heap.size ≤ z → A z := fun z h => by rw [← hAe]; exact Or.inr h
  have hS : va_S A s.heap s.heap [] := va_S.rf
  have hKc := hK.sub (tys' := gT cI cZ) [0, 1] rfl
  have hl := lv_entry ([.ref (ad 0), .int p0, .int p1, .int p2, .ref q]) (n := 6) (Nat.le_of_ble_eq_true rfl)
  rw [lg_entry_eq]
  generalize (lg_sl ([.ref (ad 0), .int p0, .int p1, .int p2, .ref q]) ++ List.replicate (6 - (lg_sl ([.ref (ad 0), .int p0, .int p1, .int p2, .ref q])).length) Slot.unset).toArray = ls at hl ⊢
  have hl : lv_has ls 6 [(0, .ref (ad 0)), (1, .int p0), (2, .int p1), (3, .int p2), (4, .ref q)] := hl
  unfold h_cutRule at hf
  refine lv_aload hx hb d_L_cutRule_0 (lv_at hl 4 rfl) ?_
  refine lv_iconst (v := 0) hx hb d_L_cutRule_2 (by decide) ?_
  refine lv_aload_n hx hb d_L_cutRule_3 rfl (lv_at hl 0 rfl) ?_
  refine lv_iload_n hx hb d_L_cutRule_4 rfl (lv_at hl 1 rfl) ?_
  refine lv_iload_n hx hb d_L_cutRule_5 rfl (lv_at hl 2 rfl) ?_
  refine lv_iload_n hx hb d_L_cutRule_6 rfl (lv_at hl 3 rfl) ?_
  rcases fg_oc_some hf with ⟨cd, hcd, hf⟩ | ⟨-, hf⟩
  · refine fgH_x (vx_runV (As := [.int p0, .int p1, .int p2]) (rest := [.int 0, .ref q]) ⟨hx, hb, hml, hown, hts⟩ (ct_G_cutRule l hst f dC dI cI cZ ad _ gB gE gC gO gn gF gL gV p0 p1 p2 cd hcd) (cwV 3 hts gv_L_40 rfl rfl rfl (by decide +kernel) ⟨Nat.le_of_ble_eq_true rfl, Nat.le_of_ble_eq_true rfl⟩) (tG_pre (A1 := A) hKc (hP.sub [0, 1, 2, 3, 4, 5, 6, 7] rfl) (hD.sub [0, 1, 2, 3, 4, 5, 6, 7] (by decide) rfl) hS hX (va_free hD hS hA [0, 1, 2, 3, 4, 5, 6, 7] rfl)) rfl rfl hl.1 rfl (lv_room (Nat.le_of_ble_eq_true rfl)) d_L_cutRule_7 ⟨Nat.le_of_ble_eq_true rfl, Nat.le_of_ble_eq_true rfl⟩) hP hD hS hA (fun ce q9 H locs hP hD hS hce hv hcl => ?_)
    by_cases h0 : cd = 0
    · rw [if_pos h0] at hf
      subst h0
      refine vx_catch (own := R_L) (name := xn 0) hown [] ⟨0, 12, 15, 13⟩ [] (htab.trans rfl) (fun z hz => by cases hz) (by decide) (by decide) (hts _ cl_L_13) (tx_cast hX xc_0) hce hv hcl ?_
      refine lv_astore (lv' := [(5, .ref q9), (0, .ref (ad 0)), (1, .int p0), (2, .int p1), (3, .int p2), (4, .ref q)]) hx hb d_L_cutRule_15 hl (by decide) rfl (fun ls hl => ?_)
      refine lv_iconst (v := 1) hx hb d_L_cutRule_17 (by decide) ?_
      cases hf
      refine W.widen (k := 1) (n := 6) (Nat.le_of_ble_eq_true rfl) (Nat.le_of_ble_eq_true rfl) ?_
      exact W.iret (v := 1) hx hb hr (fun t ht hW => ⟨⟨1, (), rfl, rfl, by rw [ht]; exact hP, va_K.moved hW.alike hK, hD⟩, hS.F ht⟩) hS.2.2 d_L_cutRule_18
    · rw [if_neg h0] at hf
      cases hf
  · obtain ⟨o1, ho1, hf⟩ := fg_ob_some hf
    refine fgH_i (va_runV (As := [.int p0, .int p1, .int p2]) (rest := [.int 0, .ref q]) ⟨hx, hb, hml, hown, hts⟩ (c_G_cutRule l dC dI cI cZ ad _ gB gE gC gO gn gF gL gV p0 p1 p2 o1 ho1) (cwV 3 hts gv_L_40 rfl rfl rfl (by decide +kernel) ⟨Nat.le_of_ble_eq_true rfl, Nat.le_of_ble_eq_true rfl⟩) (gW_pre (A := A) hKc (hP.sub [0, 1, 2, 3, 4, 5, 6, 7] rfl) (hD.sub [0, 1, 2, 3, 4, 5, 6, 7] (by decide) rfl)) rfl rfl hl.1 rfl (lv_room (Nat.le_of_ble_eq_true rfl)) d_L_cutRule_7 ⟨Nat.le_of_ble_eq_true rfl, Nat.le_of_ble_eq_true rfl⟩) hP hD hS hA (fun H locs hP hD hS => ?_)
    refine lv_i2l hx hb d_L_cutRule_10 rfl ?_
    refine va_last (i := 0) hx hb hK hP hD hS 8 2 rfl rfl (ix_in (i := 0) (n := 1) (by decide)) d_L_cutRule_11 (fun H locs hP hD hS => ?_)
    have hP : va_P (dC, dI) classes (hW cI cZ cJ ad q gB gE gC gO gn gF o1.2.1 o1.2.2 (vp_updL w 0 o1.1.toInt64)) H := hP
    have hD : va_D A (hW cI cZ cJ ad q gB gE gC gO gn gF o1.2.1 o1.2.2 (vp_updL w 0 o1.1.toInt64)) := hD
    refine lv_goto (tgt := 19) hx hb d_L_cutRule_12 (by decide) ?_
    refine lv_iconst (v := 0) hx hb d_L_cutRule_19 (by decide) ?_
    cases hf
    refine W.widen (k := 1) (n := 6) (Nat.le_of_ble_eq_true rfl) (Nat.le_of_ble_eq_true rfl) ?_
    exact W.iret (v := 0) hx hb hr (fun t ht hW => ⟨⟨0, (), rfl, rfl, by rw [ht]; exact hP, va_K.moved hW.alike hK, hD⟩, hS.F ht⟩) hS.2.2 d_L_cutRule_20
set_option maxHeartbeats 4000000 in
set_option maxRecDepth 100000 in
theorem c_L_left (l : Launch) (hst : l.stackTraces = false) (f : Nat → Nat) (dC : Nat → ClassId) (dI : Nat → Nat → Nat) (cI cZ cJ : ClassId) (ad : Nat → Nat) (q : Nat) (sz : Nat) (gB : fg_A) (gE : fg_A) (gC : fg_A) (gO : fg_A) (gn : Int32) (gF : fg_A) (gL : fg_A) (gV : fg_A) (w : fg_J) (p0 : Int32) (p1 : Int32) (o : Int32 × fg_A × fg_A × fg_J) (hf : h_left gB gE gC gO gn gL gV p0 p1 w = some o) : Met l y_L_left w_L_left rm_L_left (hW_Pc f dC dI cI cZ cJ ad q sz gB gE gC gO gn gF gL gV w [.ref (ad 0), .int p0, .int p1, .ref q]) (hW_Qi dC dI cI cZ cJ ad q (va_A (hW cI cZ cJ ad q gB gE gC gO gn gF gL gV w) sz) gB gE gC gO gn gF o.2.1 o.2.2.1 o.2.2.2 o.1) 1 6 (va_A (hW cI cZ cJ ad q gB gE gC gO gn gF gL gV w) sz) := by
  refine va_MetW (cc := b_L_left) (maxL := 5) (ret := some .int) (hh := hh_L_left) (by decide) rfl ?_
  intro p e s m args below meth c s₁ Bd hml hv
  obtain ⟨rfl, hsz, hP, hK, hD0, hX, hC⟩ := hv
  have hx := Bd.exec
  have hb := Bd.bytes
  have hr := Bd.returns
  have hts := fun w h => atoms_spec (ws := w_L_left) Bd.pre w (List.mem_cons_of_mem _ h)
  have htab := vx_table (x := y_L_left) Bd (atoms_spec (ws := w_L_left) Bd.pre _ List.mem_cons_self)
  have hown : s.vm.findClass R_L = some m.cls := findClass_of_methodNamed Bd.named
  have hlocks := Bd.notSynchronized
  subst hsz
  have hD := hD0.self (sz := s.heap.size)
  generalize hAe : va_A (hW cI cZ cJ ad q gB gE gC gO gn gF gL gV w) s.heap.size = A at hD hX ⊢
  have hA : ∀ z : Nat, s.heap.size ≤ z → A z := fun z h => by rw [← hAe]; exact Or.inr h
  have hS : va_S A s.heap s.heap [] := va_S.rf
  have hKc := hK.sub (tys' := gT cI cZ) [0, 1] rfl
  have hl := lv_entry ([.ref (ad 0), .int p0, .int p1, .ref q]) (n := 5) (Nat.le_of_ble_eq_true rfl)
  rw [lg_entry_eq]
  generalize (lg_sl ([.ref (ad 0), .int p0, .int p1, .ref q]) ++ List.replicate (5 - (lg_sl ([.ref (ad 0), .int p0, .int p1, .ref q])).length) Slot.unset).toArray = ls at hl ⊢
  have hl : lv_has ls 5 [(0, .ref (ad 0)), (1, .int p0), (2, .int p1), (3, .ref q)] := hl
  unfold h_left at hf
  refine lv_aload_n hx hb d_L_left_0 rfl (lv_at hl 3 rfl) ?_
  refine lv_iconst (v := 0) hx hb d_L_left_1 (by decide) ?_
  refine lv_aload_n hx hb d_L_left_2 rfl (lv_at hl 0 rfl) ?_
  refine lv_iload_n hx hb d_L_left_3 rfl (lv_at hl 1 rfl) ?_
  refine lv_iload_n hx hb d_L_left_4 rfl (lv_at hl 2 rfl) ?_
  rcases fg_oc_some hf with ⟨cd, hcd, hf⟩ | ⟨-, hf⟩
  · refine fgH_x (vx_runV (As := [.int p0, .int p1]) (rest := [.int 0, .ref q]) ⟨hx, hb, hml, hown, hts⟩ (ct_G_left l hst f dC dI cI cZ ad _ gB gE gC gO gn gF gL gV p0 p1 cd hcd) (cwV 2 hts gv_L_43 rfl rfl rfl (by decide +kernel) ⟨Nat.le_of_ble_eq_true rfl, Nat.le_of_ble_eq_true rfl⟩) (tG_pre (A1 := A) hKc (hP.sub [0, 1, 2, 3, 4, 5, 6, 7] rfl) (hD.sub [0, 1, 2, 3, 4, 5, 6, 7] (by decide) rfl) hS hX (va_free hD hS hA [0, 1, 2, 3, 4, 5, 6, 7] rfl)) rfl rfl hl.1 rfl (lv_room (Nat.le_of_ble_eq_true rfl)) d_L_left_5 ⟨Nat.le_of_ble_eq_true rfl, Nat.le_of_ble_eq_true rfl⟩) hP hD hS hA (fun ce q9 H locs hP hD hS hce hv hcl => ?_)
    by_cases h0 : cd = 0
    · rw [if_pos h0] at hf
      subst h0
      refine vx_catch (own := R_L) (name := xn 0) hown [] ⟨0, 10, 13, 13⟩ [] (htab.trans rfl) (fun z hz => by cases hz) (by decide) (by decide) (hts _ cl_L_13) (tx_cast hX xc_0) hce hv hcl ?_
      refine lv_astore (lv' := [(4, .ref q9), (0, .ref (ad 0)), (1, .int p0), (2, .int p1), (3, .ref q)]) hx hb d_L_left_13 hl (by decide) rfl (fun ls hl => ?_)
      refine lv_iconst (v := 1) hx hb d_L_left_15 (by decide) ?_
      cases hf
      refine W.widen (k := 1) (n := 6) (Nat.le_of_ble_eq_true rfl) (Nat.le_of_ble_eq_true rfl) ?_
      exact W.iret (v := 1) hx hb hr (fun t ht hW => ⟨⟨1, (), rfl, rfl, by rw [ht]; exact hP, va_K.moved hW.alike hK, hD⟩, hS.F ht⟩) hS.2.2 d_L_left_16
    · rw [if_neg h0] at hf
      cases hf
  · obtain ⟨o1, ho1, hf⟩ := fg_ob_some hf
    refine fgH_i (va_runV (As := [.int p0, .int p1]) (rest := [.int 0, .ref q]) ⟨hx, hb, hml, hown, hts⟩ (c_G_left l dC dI cI cZ ad _ gB gE gC gO gn gF gL gV p0 p1 o1 ho1) (cwV 2 hts gv_L_43 rfl rfl rfl (by decide +kernel) ⟨Nat.le_of_ble_eq_true rfl, Nat.le_of_ble_eq_true rfl⟩) (gW_pre (A := A) hKc (hP.sub [0, 1, 2, 3, 4, 5, 6, 7] rfl) (hD.sub [0, 1, 2, 3, 4, 5, 6, 7] (by decide) rfl)) rfl rfl hl.1 rfl (lv_room (Nat.le_of_ble_eq_true rfl)) d_L_left_5 ⟨Nat.le_of_ble_eq_true rfl, Nat.le_of_ble_eq_true rfl⟩) hP hD hS hA (fun H locs hP hD hS => ?_)
    refine lv_i2l hx hb d_L_left_8 rfl ?_
    refine va_last (i := 0) hx hb hK hP hD hS 8 2 rfl rfl (ix_in (i := 0) (n := 1) (by decide)) d_L_left_9 (fun H locs hP hD hS => ?_)
    have hP : va_P (dC, dI) classes (hW cI cZ cJ ad q gB gE gC gO gn gF o1.2.1 o1.2.2 (vp_updL w 0 o1.1.toInt64)) H := hP
    have hD : va_D A (hW cI cZ cJ ad q gB gE gC gO gn gF o1.2.1 o1.2.2 (vp_updL w 0 o1.1.toInt64)) := hD
    refine lv_goto (tgt := 17) hx hb d_L_left_10 (by decide) ?_
    refine lv_iconst (v := 0) hx hb d_L_left_17 (by decide) ?_
    cases hf
    refine W.widen (k := 1) (n := 6) (Nat.le_of_ble_eq_true rfl) (Nat.le_of_ble_eq_true rfl) ?_
    exact W.iret (v := 0) hx hb hr (fun t ht hW => ⟨⟨0, (), rfl, rfl, by rw [ht]; exact hP, va_K.moved hW.alike hK, hD⟩, hS.F ht⟩) hS.2.2 d_L_left_18
