def R_law : String := "FlowGuardLaw"
def lw_P (b : Addr) (xs : List Int32) (args : Array Value) (s : State) : Prop := args = #[.ref b] ∧ s.IntsAt b xs ∧ xs.length ≤ 2048 ∧ (Jvm.Cond.and given_1 narrow_1).before args s = true
def lw_Q (_ : Array Value) (s : State) (o : Outcome) (t : State) : Prop := o = .returned (some (.int 1)) ∧ Framed s o t [] 1048 9264
def lw_Z (below : List Frame) (a : Array Value) (s : State) : State → Prop := fun t => ∃ o, t.status = .running ∧ Ended t below o ∧ lw_Q a s o t
/-- the law's own end, with 1 on the stack, nothing written that was there before, its room as the claim has it -/
theorem lw_ret {p : Program} {l : Launch} {e : Env} {s : State} {m : MethodId} {below : List Frame} {meth : Method} {c : Code} {b : Nat} (hx : p.tables.exec = Jvm.exec) (hb : c.code = code) (hr : meth.sig.returnType = ret) (hlocks : meth.locks = false) {pc : Nat} {H : Heap} {ls : Array Slot} (hdg : decode code pc = .ok (.ireturn, 1)) : W p l e room_1 s m #[Value.ref b] below meth c H [] 1048 9264 (lw_Z below #[Value.ref b] s) (F0 m pc ls [.int 1]) := by
  intro T hT X
  obtain ⟨fs, hret, hrun, hended, hW, hframe⟩ := X.leave (v := some (.int 1)) (hlocks := hlocks) (fun h => by rw [hr] at h; cases h)
  have hmeth' : T.vm.method? m = some meth := X.method'
  refine ⟨T.setFrames fs, ?_, .returned (some (.int 1)), hrun, hended, rfl, ⟨_, rfl⟩, hW, hframe⟩
  jvm_step X.here [X.here.top, hx, hb, hdg, hmeth', hr, ret, narrow_b1]
  (try refine ⟨rfl, ?_⟩); (try refine ⟨rfl, ?_⟩)
  first | (intro acts; rw [hret _ acts rfl rfl rfl]) | rw [hret _ _ rfl rfl rfl]
  exact Steps.refl _
/-- what holds at the law's entry: the machine, the code, the tables' words (any of lw_tbl by 'hts w (by decide +kernel)'), the script of L ints xs at the cell b, what the Statement gives of the start (any of its parts by flat_of_before) -/
def lw_At (p : Program) (s : State) (m : MethodId) (meth : Method) (c : Code) (b L : Nat) (xs : Nat → Int32) : Prop :=
  p.tables.exec = Jvm.exec ∧ c.code = code ∧ meth.sig.returnType = ret ∧ c.maxLocals = 7 ∧ s.vm.findClass R_law = some m.cls ∧ (∀ w ∈ lw_tbl, w.before #[Value.ref b] s = true) ∧ va_X b L xs s s.heap ∧ b < s.heap.size ∧ meth.locks = false ∧ (Jvm.Cond.and given_1 narrow_1).before #[Value.ref b] s = true
/-! The law's loop. -/
set_option maxHeartbeats 40000000 in
set_option maxRecDepth 100000 in
theorem w_law {p : Program} {l : Launch} {e : Env} {s : State} {m : MethodId} {below : List Frame} {meth : Method} {c : Code} {dC : Nat → ClassId} {dI : Nat → Nat → Nat} {cI cZ cJ : ClassId} {ad am f : Nat → Nat} {q b L : Nat} {xs : Nat → Int32} (hL : L ≤ 2048) (hst : l.stackTraces = false) (C0 : lw_At p s m meth c b L xs) (hK : va_K (dC, dI) classes (gTL cI cZ cJ) s) (hX : tx_E f (fun z : Nat => s.heap.size ≤ z) s s.heap) (hC : tx_C s) :
    ∀ (k it : Nat) (x4 : Int32) (gB : fg_A) (gE : fg_A) (gC : fg_A) (gO : fg_A) (gn : Int32) (gF : fg_A) (gL : fg_A) (gV : fg_A) (mt : Int32) (mn : Int32) (mB : fg_A) (mE : fg_A) (mC : fg_A) (mO : fg_A) (mF : fg_A) (mL : fg_A) (mV : fg_A) (w : fg_J), f_law xs L k x4 gB gE gC gO gn gF gL gV mt mn mB mE mC mO mF mL mV w = some () → x4 = nI (4 * it) → it ≤ 512 → 4 * it ≤ L → ∀ (H : Heap) (locs : List Loc) (ls : Array Slot), va_P (dC, dI) classes (lW cI cZ cJ ad am q gB gE gC gO gn gF gL gV mt mn mB mE mC mO mF mL mV w) H → va_D (fun z : Nat => s.heap.size ≤ z) (lW cI cZ cJ ad am q gB gE gC gO gn gF gL gV mt mn mB mE mC mO mF mL mV w) → va_S (fun z : Nat => s.heap.size ≤ z) s.heap H locs → lv_has ls 7 [(0, .ref b), (1, .ref (ad 0)), (2, .ref (am 0)), (3, .ref q), (4, .int x4)] →
    W p l e room_1 s m #[Value.ref b] below meth c H locs (17 + it) (1030 + 6 * it) (lw_Z below #[Value.ref b] s) (F0 m 23 ls []) := by
  obtain ⟨hx, hb, hr, hml, hown, hts0, hXs, hbl, hlocks, hgv⟩ := C0
  have hts : ∀ w ∈ gw, w.before #[Value.ref b] s = true := fun w h => hts0 w (gw_in h)
  have hA : ∀ z : Nat, s.heap.size ≤ z → (fun z : Nat => s.heap.size ≤ z) z := fun _ h => h
  have hbA : ¬ (fun z : Nat => s.heap.size ≤ z) b := Nat.not_le.mpr hbl
  have hKc := hK.sub (tys' := gT cI cZ) [0, 1] rfl
  intro k
  induction k with
  | zero =>
    intro it x4 gB gE gC gO gn gF gL gV mt mn mB mE mC mO mF mL mV w hf
    exact absurd (show none = some () from hf) (by simp)
  | succ k ih =>
    intro it x4 gB gE gC gO gn gF gL gV mt mn mB mE mC mO mF mL mV w hf hx4 hit h4 H locs ls hP hD hS hl
    rw [f_law] at hf
    refine lv_iload hx hb d_L_law_23 (lv_at hl 4 rfl) ?_
    refine lv_aload_n hx hb d_L_law_25 rfl (lv_at hl 0 rfl) ?_
    refine va_slen hx hb hXs hbl hbA hS d_L_law_26 ?_
    refine lv_iconst (v := 4) hx hb d_L_law_27 (by decide) ?_
    refine lv_isub hx hb d_L_law_28 ?_
    refine lv_icmp_gt (tgt := 785) hx hb d_L_law_29 (by decide) (fun hc => ?_) (fun hc => ?_)
    · rw [if_pos hc] at hf
      refine lv_iconst (v := 1) hx hb d_L_law_785 (by decide) ?_
      refine va_forget (fun q hq => hS.2.2 q hq) ?_
      refine W.widen (k := 1048) (n := 9264) (by omega) (by omega) ?_
      exact lw_ret hx hb hr hlocks d_L_law_786
    · rw [if_neg hc] at hf
      have hin := lw_in hL hx4 h4 hc
      refine lv_aload_n hx hb d_L_law_32 rfl (lv_at hl 0 rfl) ?_
      refine lv_iload hx hb d_L_law_33 (lv_at hl 4 rfl) ?_
      obtain ⟨hi, hf⟩ := fg_og_some hf
      refine va_sld hx hb hXs hbl hbA hS (ix_in hi) d_L_law_35 ?_
      refine lv_bipush (v := 15) hx hb d_L_law_36 (by decide) ?_
      refine lv_iand hx hb d_L_law_38 ?_
      refine lv_topi (fun v ev => ?_)
      rw [← ev] at hf
      by_cases h0 : v = 0
      · rw [if_pos h0] at hf
        subst h0
        refine lv_tableIn (tgt := 96) hx hb d_L_law_39 (by decide) (by decide) rfl (by decide) ?_
        refine lv_aload_n hx hb d_L_law_96 rfl (lv_at hl 1 rfl) ?_
        obtain ⟨o37, hco37, hf⟩ := fg_ob_some hf
        refine fgLg_v (va_runV (As := []) (rest := []) ⟨hx, hb, hml, hown, hts⟩ (c_G_clear l dC dI cI cZ ad _ gB gE gC gO gn gF gL gV  o37 hco37) (cwV 0 hts gv_L_50 rfl rfl rfl (by decide +kernel) ⟨Nat.le_of_ble_eq_true rfl, Nat.le_of_ble_eq_true rfl⟩) (gW_pre (A := fun z => s.heap.size ≤ z) hKc (hP.sub [0, 1, 2, 3, 4, 5, 6, 7] rfl) (hD.sub [0, 1, 2, 3, 4, 5, 6, 7] (by decide) rfl)) rfl rfl hl.1 rfl (lv_room (Nat.le_of_ble_eq_true rfl)) d_L_law_97 ⟨lw_cle (by omega), lw_sle (by omega)⟩) hP hD hS hA (fun H locs hP hD hS => ?_)
        refine lv_aload_n hx hb d_L_law_100 rfl (lv_at hl 2 rfl) ?_
        obtain ⟨o38, hco38, hf⟩ := fg_ob_some hf
        refine fgLm_v (va_runV (As := []) (rest := []) ⟨hx, hb, hml, hown, hts⟩ (c_M_clear l dC dI cI cZ am _ mt mn mB mE mC mO mF mL mV  o38 hco38) (cwV 0 hts gv_L_53 rfl rfl rfl (by decide +kernel) ⟨Nat.le_of_ble_eq_true rfl, Nat.le_of_ble_eq_true rfl⟩) (mW_pre (A := fun z => s.heap.size ≤ z) hKc (hP.sub [8, 9, 10, 11, 12, 13, 14, 15] rfl) (hD.sub [8, 9, 10, 11, 12, 13, 14, 15] (by decide) rfl)) rfl rfl hl.1 rfl (lv_room (Nat.le_of_ble_eq_true rfl)) d_L_law_101 ⟨lw_cle (by omega), lw_sle (by omega)⟩) hP hD hS hA (fun H locs hP hD hS => ?_)
        refine lv_goto (tgt := 779) hx hb d_L_law_104 (by decide) ?_
        refine lv_iinc (v := x4 + 4) (lv' := [(4, .int (x4 + 4)), (0, .ref b), (1, .ref (ad 0)), (2, .ref (am 0)), (3, .ref q)]) hx hb d_L_law_779 hl (k := 4) rfl rfl (by decide) rfl (fun ls hl => ?_)
        refine lv_goto (tgt := 23) hx hb d_L_law_782 (by decide) ?_
        refine W.widen (k := 17 + (it + 1)) (n := 1030 + 6 * (it + 1)) (by omega) (by omega) ?_
        exact ih (it + 1) (x4 + 4) gB gE gC gO o37 gF gL gV o38.1 o38.2 mB mE mC mO mF mL mV w hf (by rw [hx4]; exact lw_next it) (by omega) (by omega) _ _ _ hP hD hS (lv_sub hl [1, 2, 3, 4, 0] rfl)
      · rw [if_neg h0] at hf
        by_cases h1 : v = 1
        · rw [if_pos h1] at hf
          subst h1
          refine lv_tableIn (tgt := 107) hx hb d_L_law_39 (by decide) (by decide) rfl (by decide) ?_
          refine lv_aload_n hx hb d_L_law_107 rfl (lv_at hl 1 rfl) ?_
          refine lv_aload_n hx hb d_L_law_108 rfl (lv_at hl 0 rfl) ?_
          refine lv_iload hx hb d_L_law_109 (lv_at hl 4 rfl) ?_
          refine lv_iconst (v := 1) hx hb d_L_law_111 (by decide) ?_
          refine lv_iadd hx hb d_L_law_112 ?_
          obtain ⟨hi, hf⟩ := fg_og_some hf
          refine va_sld hx hb hXs hbl hbA hS (ix_in hi) d_L_law_113 ?_
          refine lv_aload_n hx hb d_L_law_114 rfl (lv_at hl 0 rfl) ?_
          refine lv_iload hx hb d_L_law_115 (lv_at hl 4 rfl) ?_
          refine lv_iconst (v := 2) hx hb d_L_law_117 (by decide) ?_
          refine lv_iadd hx hb d_L_law_118 ?_
          obtain ⟨hi, hf⟩ := fg_og_some hf
          refine va_sld hx hb hXs hbl hbA hS (ix_in hi) d_L_law_119 ?_
          refine lv_aload_n hx hb d_L_law_120 rfl (lv_at hl 0 rfl) ?_
          refine lv_iload hx hb d_L_law_121 (lv_at hl 4 rfl) ?_
          refine lv_iconst (v := 3) hx hb d_L_law_123 (by decide) ?_
          refine lv_iadd hx hb d_L_law_124 ?_
          obtain ⟨hi, hf⟩ := fg_og_some hf
          refine va_sld hx hb hXs hbl hbA hS (ix_in hi) d_L_law_125 ?_
          refine lv_aload_n hx hb d_L_law_126 rfl (lv_at hl 3 rfl) ?_
          obtain ⟨o34, hco34, hf⟩ := fg_ob_some hf
          refine fgL_h (vx_runSW (As := [.ref (ad 0), .int (xs (x4 + 1).toNatClampNeg), .int (xs (x4 + 2).toNatClampNeg), .int (xs (x4 + 3).toNatClampNeg), .ref q]) (rest := []) ⟨hx, hb, hml, hown, hts⟩ (c_L_rule l hst f dC dI cI cZ cJ ad q _ gB gE gC gO gn gF gL gV w (xs (x4 + 1).toNatClampNeg) (xs (x4 + 2).toNatClampNeg) (xs (x4 + 3).toNatClampNeg) o34 hco34) (vx_cwSW 5 hts gw_L_54 rfl rfl rfl (by decide +kernel) ⟨Nat.le_of_ble_eq_true rfl, Nat.le_of_ble_eq_true rfl⟩) (hW_pre (A1 := fun z => s.heap.size ≤ z) hK (hP.sub [0, 1, 2, 3, 4, 5, 6, 7, 16] rfl) (hD.sub [0, 1, 2, 3, 4, 5, 6, 7, 16] (by decide) rfl) hS hX hC (va_free hD hS hA [0, 1, 2, 3, 4, 5, 6, 7, 16] rfl)) rfl rfl hl.1 rfl (lv_room (Nat.le_of_ble_eq_true rfl)) d_L_law_127 ⟨lw_cle (by omega), lw_sle (by omega)⟩) hP hD hS hA (fun H locs hP hD hS => ?_)
          refine lv_istore (lv' := [(5, .int o34.1), (0, .ref b), (1, .ref (ad 0)), (2, .ref (am 0)), (3, .ref q), (4, .int x4)]) hx hb d_L_law_130 hl (by decide) rfl (fun ls hl => ?_)
          refine lv_aload_n hx hb d_L_law_132 rfl (lv_at hl 3 rfl) ?_
          refine lv_aload_n hx hb d_L_law_133 rfl (lv_at hl 1 rfl) ?_
          refine lv_iload hx hb d_L_law_134 (lv_at hl 5 rfl) ?_
          refine lv_iconst (v := 1) hx hb d_L_law_136 (by decide) ?_
          refine lv_iadd hx hb d_L_law_137 ?_
          obtain ⟨hi, hf⟩ := fg_og_some hf
          refine va_sld hx hb hXs hbl hbA hS (ix_in hi) d_L_law_138 ?_
          refine lv_aload_n hx hb d_L_law_139 rfl (lv_at hl 1 rfl) ?_
          refine lv_iload hx hb d_L_law_140 (lv_at hl 5 rfl) ?_
          refine lv_iconst (v := 2) hx hb d_L_law_142 (by decide) ?_
          refine lv_iadd hx hb d_L_law_143 ?_
          obtain ⟨hi, hf⟩ := fg_og_some hf
          refine va_sld hx hb hXs hbl hbA hS (ix_in hi) d_L_law_144 ?_
          refine lv_aload_n hx hb d_L_law_145 rfl (lv_at hl 1 rfl) ?_
          refine lv_iload hx hb d_L_law_146 (lv_at hl 5 rfl) ?_
          refine lv_iconst (v := 3) hx hb d_L_law_148 (by decide) ?_
          refine lv_iadd hx hb d_L_law_149 ?_
          obtain ⟨hi, hf⟩ := fg_og_some hf
          refine va_sld hx hb hXs hbl hbA hS (ix_in hi) d_L_law_150 ?_
          obtain ⟨o35, hco35, hf⟩ := fg_ob_some hf
          refine fgLm_i (va_runV (As := [.int (xs (x4 + 1).toNatClampNeg), .int (xs (x4 + 2).toNatClampNeg), .int (xs (x4 + 3).toNatClampNeg)]) (rest := []) ⟨hx, hb, hml, hown, hts⟩ (c_M_rule l dC dI cI cZ am _ mt mn mB mE mC mO mF mL mV (xs (x4 + 1).toNatClampNeg) (xs (x4 + 2).toNatClampNeg) (xs (x4 + 3).toNatClampNeg) o35 hco35) (cwV 3 hts gv_L_59 rfl rfl rfl (by decide +kernel) ⟨Nat.le_of_ble_eq_true rfl, Nat.le_of_ble_eq_true rfl⟩) (mW_pre (A := fun z => s.heap.size ≤ z) hKc (hP.sub [8, 9, 10, 11, 12, 13, 14, 15] rfl) (hD.sub [8, 9, 10, 11, 12, 13, 14, 15] (by decide) rfl)) rfl rfl hl.1 rfl (lv_room (Nat.le_of_ble_eq_true rfl)) d_L_law_151 ⟨lw_cle (by omega), lw_sle (by omega)⟩) hP hD hS hA (fun H locs hP hD hS => ?_)
          refine lv_istore (lv' := [(6, .int o35.1), (5, .int o34.1), (0, .ref b), (1, .ref (ad 0)), (2, .ref (am 0)), (3, .ref q), (4, .int x4)]) hx hb d_L_law_154 hl (by decide) rfl (fun ls hl => ?_)
          refine lv_aload_n hx hb d_L_law_156 rfl (lv_at hl 4 rfl) ?_
          obtain ⟨o36, hco36, hf⟩ := fg_ob_some hf
          refine fgLm_i (va_runV (As := []) (rest := []) ⟨hx, hb, hml, hown, hts⟩ (c_M_thrown l dC dI cI cZ am _ o35.2.1 o35.2.2.1 o35.2.2.2.1 o35.2.2.2.2.1 o35.2.2.2.2.2.1 o35.2.2.2.2.2.2 mF mL mV  o36 hco36) (cwV 0 hts gv_L_60 rfl rfl rfl (by decide +kernel) ⟨Nat.le_of_ble_eq_true rfl, Nat.le_of_ble_eq_true rfl⟩) (mW_pre (A := fun z => s.heap.size ≤ z) hKc (hP.sub [8, 9, 10, 11, 12, 13, 14, 15] rfl) (hD.sub [8, 9, 10, 11, 12, 13, 14, 15] (by decide) rfl)) rfl rfl hl.1 rfl (lv_room (Nat.le_of_ble_eq_true rfl)) d_L_law_157 ⟨lw_cle (by omega), lw_sle (by omega)⟩) hP hD hS hA (fun H locs hP hD hS => ?_)
          refine lv_iload hx hb d_L_law_160 (lv_at hl 1 rfl) ?_
          refine lv_icmp_eq (tgt := 167) hx hb d_L_law_162 (by decide) (fun hc => ?_) (fun hc => ?_)
          · rw [if_pos hc] at hf
            refine lv_iload hx hb d_L_law_167 (lv_at hl 1 rfl) ?_
            refine lv_if_ne (tgt := 184) hx hb d_L_law_169 (by decide) (fun hc => ?_) (fun hc => ?_)
            · rw [if_neg hc] at hf
              refine lv_goto (tgt := 779) hx hb d_L_law_184 (by decide) ?_
              refine lv_iinc (v := x4 + 4) (lv' := [(4, .int (x4 + 4)), (6, .int o35.1), (5, .int o34.1), (0, .ref b), (1, .ref (ad 0)), (2, .ref (am 0)), (3, .ref q)]) hx hb d_L_law_779 hl (k := 6) rfl rfl (by decide) rfl (fun ls hl => ?_)
              refine lv_goto (tgt := 23) hx hb d_L_law_782 (by decide) ?_
              refine W.widen (k := 17 + (it + 1)) (n := 1030 + 6 * (it + 1)) (by omega) (by omega) ?_
              exact ih (it + 1) (x4 + 4) o34.2.1 o34.2.2.1 o34.2.2.2.1 o34.2.2.2.2.1 o34.2.2.2.2.2.1 gF gL gV o35.2.1 o35.2.2.1 o35.2.2.2.1 o35.2.2.2.2.1 o35.2.2.2.2.2.1 o35.2.2.2.2.2.2 mF mL mV o34.2.2.2.2.2.2 hf (by rw [hx4]; exact lw_next it) (by omega) (by omega) _ _ _ hP hD hS (lv_sub hl [3, 4, 5, 6, 0] rfl)
            · rw [if_pos hc] at hf
              refine lv_aload_n hx hb d_L_law_172 rfl (lv_at hl 5 rfl) ?_
              refine lv_iconst (v := 0) hx hb d_L_law_173 (by decide) ?_
              refine va_lald (i := 0) hx hb hK hP 16 2 rfl rfl (ix_in (i := 0) (n := 1) (by decide)) d_L_law_174 ?_
              refine lv_iload hx hb d_L_law_175 (lv_at hl 0 rfl) ?_
              refine lv_i2l hx hb d_L_law_177 rfl ?_
              refine W.lcmp hx hb d_L_law_178 ?_
              refine lv_if_eq (tgt := 184) hx hb d_L_law_179 (by decide) (fun hc => ?_) (fun hc => ?_)
              · rw [if_pos (show (lg_cmp (o34.2.2.2.2.2.2 0) o35.1.toInt64) = 0 from hc)] at hf
                refine lv_goto (tgt := 779) hx hb d_L_law_184 (by decide) ?_
                refine lv_iinc (v := x4 + 4) (lv' := [(4, .int (x4 + 4)), (6, .int o35.1), (5, .int o34.1), (0, .ref b), (1, .ref (ad 0)), (2, .ref (am 0)), (3, .ref q)]) hx hb d_L_law_779 hl (k := 6) rfl rfl (by decide) rfl (fun ls hl => ?_)
                refine lv_goto (tgt := 23) hx hb d_L_law_782 (by decide) ?_
                refine W.widen (k := 17 + (it + 1)) (n := 1030 + 6 * (it + 1)) (by omega) (by omega) ?_
                exact ih (it + 1) (x4 + 4) o34.2.1 o34.2.2.1 o34.2.2.2.1 o34.2.2.2.2.1 o34.2.2.2.2.2.1 gF gL gV o35.2.1 o35.2.2.1 o35.2.2.2.1 o35.2.2.2.2.1 o35.2.2.2.2.2.1 o35.2.2.2.2.2.2 mF mL mV o34.2.2.2.2.2.2 hf (by rw [hx4]; exact lw_next it) (by omega) (by omega) _ _ _ hP hD hS (lv_sub hl [3, 4, 5, 6, 0] rfl)
              · rw [if_neg (show ¬ (lg_cmp (o34.2.2.2.2.2.2 0) o35.1.toInt64) = 0 from hc)] at hf
                refine lv_iconst (v := 0) hx hb d_L_law_182 (by decide) ?_
                cases hf
          · rw [if_neg hc] at hf
            refine lv_iconst (v := 0) hx hb d_L_law_165 (by decide) ?_
            cases hf
        · rw [if_neg h1] at hf
          by_cases h2 : v = 2
          · rw [if_pos h2] at hf
            subst h2
            refine lv_tableIn (tgt := 187) hx hb d_L_law_39 (by decide) (by decide) rfl (by decide) ?_
            refine lv_aload_n hx hb d_L_law_187 rfl (lv_at hl 1 rfl) ?_
            refine lv_aload_n hx hb d_L_law_188 rfl (lv_at hl 0 rfl) ?_
            refine lv_iload hx hb d_L_law_189 (lv_at hl 4 rfl) ?_
            refine lv_iconst (v := 1) hx hb d_L_law_191 (by decide) ?_
            refine lv_iadd hx hb d_L_law_192 ?_
            obtain ⟨hi, hf⟩ := fg_og_some hf
            refine va_sld hx hb hXs hbl hbA hS (ix_in hi) d_L_law_193 ?_
            refine lv_aload_n hx hb d_L_law_194 rfl (lv_at hl 0 rfl) ?_
            refine lv_iload hx hb d_L_law_195 (lv_at hl 4 rfl) ?_
            refine lv_iconst (v := 2) hx hb d_L_law_197 (by decide) ?_
            refine lv_iadd hx hb d_L_law_198 ?_
            obtain ⟨hi, hf⟩ := fg_og_some hf
            refine va_sld hx hb hXs hbl hbA hS (ix_in hi) d_L_law_199 ?_
            refine lv_if_eq (tgt := 207) hx hb d_L_law_200 (by decide) (fun hc => ?_) (fun hc => ?_)
            · rw [if_pos hc] at hf
              refine lv_iconst (v := 0) hx hb d_L_law_207 (by decide) ?_
              refine lv_aload_n hx hb d_L_law_208 rfl (lv_at hl 3 rfl) ?_
              obtain ⟨o24, hco24, hf⟩ := fg_ob_some hf
              refine fgL_h (vx_runSW (As := [.ref (ad 0), .int (xs (x4 + 1).toNatClampNeg), .int 0, .ref q]) (rest := []) ⟨hx, hb, hml, hown, hts⟩ (c_L_turn l hst f dC dI cI cZ cJ ad q _ gB gE gC gO gn gF gL gV w (xs (x4 + 1).toNatClampNeg) 0 o24 hco24) (vx_cwSW 4 hts gw_L_64 rfl rfl rfl (by decide +kernel) ⟨Nat.le_of_ble_eq_true rfl, Nat.le_of_ble_eq_true rfl⟩) (hW_pre (A1 := fun z => s.heap.size ≤ z) hK (hP.sub [0, 1, 2, 3, 4, 5, 6, 7, 16] rfl) (hD.sub [0, 1, 2, 3, 4, 5, 6, 7, 16] (by decide) rfl) hS hX hC (va_free hD hS hA [0, 1, 2, 3, 4, 5, 6, 7, 16] rfl)) rfl rfl hl.1 rfl (lv_room (Nat.le_of_ble_eq_true rfl)) d_L_law_209 ⟨lw_cle (by omega), lw_sle (by omega)⟩) hP hD hS hA (fun H locs hP hD hS => ?_)
              refine lv_istore (lv' := [(5, .int o24.1), (0, .ref b), (1, .ref (ad 0)), (2, .ref (am 0)), (3, .ref q), (4, .int x4)]) hx hb d_L_law_212 hl (by decide) rfl (fun ls hl => ?_)
              refine lv_aload_n hx hb d_L_law_214 rfl (lv_at hl 3 rfl) ?_
              refine lv_aload_n hx hb d_L_law_215 rfl (lv_at hl 1 rfl) ?_
              refine lv_iload hx hb d_L_law_216 (lv_at hl 5 rfl) ?_
              refine lv_iconst (v := 1) hx hb d_L_law_218 (by decide) ?_
              refine lv_iadd hx hb d_L_law_219 ?_
              obtain ⟨hi, hf⟩ := fg_og_some hf
              refine va_sld hx hb hXs hbl hbA hS (ix_in hi) d_L_law_220 ?_
              refine lv_aload_n hx hb d_L_law_221 rfl (lv_at hl 1 rfl) ?_
              refine lv_iload hx hb d_L_law_222 (lv_at hl 5 rfl) ?_
              refine lv_iconst (v := 2) hx hb d_L_law_224 (by decide) ?_
              refine lv_iadd hx hb d_L_law_225 ?_
              obtain ⟨hi, hf⟩ := fg_og_some hf
              refine va_sld hx hb hXs hbl hbA hS (ix_in hi) d_L_law_226 ?_
              refine lv_if_eq (tgt := 234) hx hb d_L_law_227 (by decide) (fun hc => ?_) (fun hc => ?_)
              · rw [if_pos hc] at hf
                refine lv_iconst (v := 0) hx hb d_L_law_234 (by decide) ?_
                obtain ⟨o25, hco25, hf⟩ := fg_ob_some hf
                refine fgLm_i (va_runV (As := [.int (xs (x4 + 1).toNatClampNeg), .int 0]) (rest := []) ⟨hx, hb, hml, hown, hts⟩ (c_M_turn l dC dI cI cZ am _ mt mn mB mE mC mO mF mL mV (xs (x4 + 1).toNatClampNeg) 0 o25 hco25) (cwV 2 hts gv_L_67 rfl rfl rfl (by decide +kernel) ⟨Nat.le_of_ble_eq_true rfl, Nat.le_of_ble_eq_true rfl⟩) (mW_pre (A := fun z => s.heap.size ≤ z) hKc (hP.sub [8, 9, 10, 11, 12, 13, 14, 15] rfl) (hD.sub [8, 9, 10, 11, 12, 13, 14, 15] (by decide) rfl)) rfl rfl hl.1 rfl (lv_room (Nat.le_of_ble_eq_true rfl)) d_L_law_235 ⟨lw_cle (by omega), lw_sle (by omega)⟩) hP hD hS hA (fun H locs hP hD hS => ?_)
                refine lv_istore (lv' := [(6, .int o25.1), (5, .int o24.1), (0, .ref b), (1, .ref (ad 0)), (2, .ref (am 0)), (3, .ref q), (4, .int x4)]) hx hb d_L_law_238 hl (by decide) rfl (fun ls hl => ?_)
                refine lv_aload_n hx hb d_L_law_240 rfl (lv_at hl 4 rfl) ?_
                obtain ⟨o26, hco26, hf⟩ := fg_ob_some hf
                refine fgLm_i (va_runV (As := []) (rest := []) ⟨hx, hb, hml, hown, hts⟩ (c_M_thrown l dC dI cI cZ am _ o25.2.1 mn mB mE mC o25.2.2 mF mL mV  o26 hco26) (cwV 0 hts gv_L_60 rfl rfl rfl (by decide +kernel) ⟨Nat.le_of_ble_eq_true rfl, Nat.le_of_ble_eq_true rfl⟩) (mW_pre (A := fun z => s.heap.size ≤ z) hKc (hP.sub [8, 9, 10, 11, 12, 13, 14, 15] rfl) (hD.sub [8, 9, 10, 11, 12, 13, 14, 15] (by decide) rfl)) rfl rfl hl.1 rfl (lv_room (Nat.le_of_ble_eq_true rfl)) d_L_law_241 ⟨lw_cle (by omega), lw_sle (by omega)⟩) hP hD hS hA (fun H locs hP hD hS => ?_)
                refine lv_iload hx hb d_L_law_244 (lv_at hl 1 rfl) ?_
                refine lv_icmp_eq (tgt := 251) hx hb d_L_law_246 (by decide) (fun hc => ?_) (fun hc => ?_)
                · rw [if_pos hc] at hf
                  refine lv_iload hx hb d_L_law_251 (lv_at hl 1 rfl) ?_
                  refine lv_if_ne (tgt := 275) hx hb d_L_law_253 (by decide) (fun hc => ?_) (fun hc => ?_)
                  · rw [if_neg hc] at hf
                    refine lv_goto (tgt := 779) hx hb d_L_law_275 (by decide) ?_
                    refine lv_iinc (v := x4 + 4) (lv' := [(4, .int (x4 + 4)), (6, .int o25.1), (5, .int o24.1), (0, .ref b), (1, .ref (ad 0)), (2, .ref (am 0)), (3, .ref q)]) hx hb d_L_law_779 hl (k := 6) rfl rfl (by decide) rfl (fun ls hl => ?_)
                    refine lv_goto (tgt := 23) hx hb d_L_law_782 (by decide) ?_
                    refine W.widen (k := 17 + (it + 1)) (n := 1030 + 6 * (it + 1)) (by omega) (by omega) ?_
                    exact ih (it + 1) (x4 + 4) gB gE gC o24.2.1 gn gF gL gV o25.2.1 mn mB mE mC o25.2.2 mF mL mV o24.2.2 hf (by rw [hx4]; exact lw_next it) (by omega) (by omega) _ _ _ hP hD hS (lv_sub hl [3, 4, 5, 6, 0] rfl)
                  · rw [if_pos hc] at hf
                    refine lv_aload_n hx hb d_L_law_256 rfl (lv_at hl 5 rfl) ?_
                    refine lv_iconst (v := 0) hx hb d_L_law_257 (by decide) ?_
                    refine va_lald (i := 0) hx hb hK hP 16 2 rfl rfl (ix_in (i := 0) (n := 1) (by decide)) d_L_law_258 ?_
                    refine lv_iload hx hb d_L_law_259 (lv_at hl 0 rfl) ?_
                    refine lv_if_eq (tgt := 268) hx hb d_L_law_261 (by decide) (fun hc => ?_) (fun hc => ?_)
                    · rw [if_pos hc] at hf
                      refine lv_lconst (v := 0) hx hb d_L_law_268 (by decide) ?_
                      refine W.lcmp hx hb d_L_law_269 ?_
                      refine lv_if_eq (tgt := 275) hx hb d_L_law_270 (by decide) (fun hc => ?_) (fun hc => ?_)
                      · rw [if_pos (show (lg_cmp (o24.2.2 0) 0) = 0 from hc)] at hf
                        refine lv_goto (tgt := 779) hx hb d_L_law_275 (by decide) ?_
                        refine lv_iinc (v := x4 + 4) (lv' := [(4, .int (x4 + 4)), (6, .int o25.1), (5, .int o24.1), (0, .ref b), (1, .ref (ad 0)), (2, .ref (am 0)), (3, .ref q)]) hx hb d_L_law_779 hl (k := 6) rfl rfl (by decide) rfl (fun ls hl => ?_)
                        refine lv_goto (tgt := 23) hx hb d_L_law_782 (by decide) ?_
                        refine W.widen (k := 17 + (it + 1)) (n := 1030 + 6 * (it + 1)) (by omega) (by omega) ?_
                        exact ih (it + 1) (x4 + 4) gB gE gC o24.2.1 gn gF gL gV o25.2.1 mn mB mE mC o25.2.2 mF mL mV o24.2.2 hf (by rw [hx4]; exact lw_next it) (by omega) (by omega) _ _ _ hP hD hS (lv_sub hl [3, 4, 5, 6, 0] rfl)
                      · rw [if_neg (show ¬ (lg_cmp (o24.2.2 0) 0) = 0 from hc)] at hf
                        refine lv_iconst (v := 0) hx hb d_L_law_273 (by decide) ?_
                        cases hf
                    · rw [if_neg hc] at hf
                      refine lv_lconst (v := 1) hx hb d_L_law_264 (by decide) ?_
                      refine lv_goto (tgt := 269) hx hb d_L_law_265 (by decide) ?_
                      refine W.lcmp hx hb d_L_law_269 ?_
                      refine lv_if_eq (tgt := 275) hx hb d_L_law_270 (by decide) (fun hc => ?_) (fun hc => ?_)
                      · rw [if_pos (show (lg_cmp (o24.2.2 0) 1) = 0 from hc)] at hf
                        refine lv_goto (tgt := 779) hx hb d_L_law_275 (by decide) ?_
                        refine lv_iinc (v := x4 + 4) (lv' := [(4, .int (x4 + 4)), (6, .int o25.1), (5, .int o24.1), (0, .ref b), (1, .ref (ad 0)), (2, .ref (am 0)), (3, .ref q)]) hx hb d_L_law_779 hl (k := 6) rfl rfl (by decide) rfl (fun ls hl => ?_)
                        refine lv_goto (tgt := 23) hx hb d_L_law_782 (by decide) ?_
                        refine W.widen (k := 17 + (it + 1)) (n := 1030 + 6 * (it + 1)) (by omega) (by omega) ?_
                        exact ih (it + 1) (x4 + 4) gB gE gC o24.2.1 gn gF gL gV o25.2.1 mn mB mE mC o25.2.2 mF mL mV o24.2.2 hf (by rw [hx4]; exact lw_next it) (by omega) (by omega) _ _ _ hP hD hS (lv_sub hl [3, 4, 5, 6, 0] rfl)
                      · rw [if_neg (show ¬ (lg_cmp (o24.2.2 0) 1) = 0 from hc)] at hf
                        refine lv_iconst (v := 0) hx hb d_L_law_273 (by decide) ?_
                        cases hf
                · rw [if_neg hc] at hf
                  refine lv_iconst (v := 0) hx hb d_L_law_249 (by decide) ?_
                  cases hf
              · rw [if_neg hc] at hf
                refine lv_iconst (v := 1) hx hb d_L_law_230 (by decide) ?_
                refine lv_goto (tgt := 235) hx hb d_L_law_231 (by decide) ?_
                obtain ⟨o27, hco27, hf⟩ := fg_ob_some hf
                refine fgLm_i (va_runV (As := [.int (xs (x4 + 1).toNatClampNeg), .int 1]) (rest := []) ⟨hx, hb, hml, hown, hts⟩ (c_M_turn l dC dI cI cZ am _ mt mn mB mE mC mO mF mL mV (xs (x4 + 1).toNatClampNeg) 1 o27 hco27) (cwV 2 hts gv_L_67 rfl rfl rfl (by decide +kernel) ⟨Nat.le_of_ble_eq_true rfl, Nat.le_of_ble_eq_true rfl⟩) (mW_pre (A := fun z => s.heap.size ≤ z) hKc (hP.sub [8, 9, 10, 11, 12, 13, 14, 15] rfl) (hD.sub [8, 9, 10, 11, 12, 13, 14, 15] (by decide) rfl)) rfl rfl hl.1 rfl (lv_room (Nat.le_of_ble_eq_true rfl)) d_L_law_235 ⟨lw_cle (by omega), lw_sle (by omega)⟩) hP hD hS hA (fun H locs hP hD hS => ?_)
                refine lv_istore (lv' := [(6, .int o27.1), (5, .int o24.1), (0, .ref b), (1, .ref (ad 0)), (2, .ref (am 0)), (3, .ref q), (4, .int x4)]) hx hb d_L_law_238 hl (by decide) rfl (fun ls hl => ?_)
                refine lv_aload_n hx hb d_L_law_240 rfl (lv_at hl 4 rfl) ?_
                obtain ⟨o28, hco28, hf⟩ := fg_ob_some hf
                refine fgLm_i (va_runV (As := []) (rest := []) ⟨hx, hb, hml, hown, hts⟩ (c_M_thrown l dC dI cI cZ am _ o27.2.1 mn mB mE mC o27.2.2 mF mL mV  o28 hco28) (cwV 0 hts gv_L_60 rfl rfl rfl (by decide +kernel) ⟨Nat.le_of_ble_eq_true rfl, Nat.le_of_ble_eq_true rfl⟩) (mW_pre (A := fun z => s.heap.size ≤ z) hKc (hP.sub [8, 9, 10, 11, 12, 13, 14, 15] rfl) (hD.sub [8, 9, 10, 11, 12, 13, 14, 15] (by decide) rfl)) rfl rfl hl.1 rfl (lv_room (Nat.le_of_ble_eq_true rfl)) d_L_law_241 ⟨lw_cle (by omega), lw_sle (by omega)⟩) hP hD hS hA (fun H locs hP hD hS => ?_)
                refine lv_iload hx hb d_L_law_244 (lv_at hl 1 rfl) ?_
                refine lv_icmp_eq (tgt := 251) hx hb d_L_law_246 (by decide) (fun hc => ?_) (fun hc => ?_)
                · rw [if_pos hc] at hf
                  refine lv_iload hx hb d_L_law_251 (lv_at hl 1 rfl) ?_
                  refine lv_if_ne (tgt := 275) hx hb d_L_law_253 (by decide) (fun hc => ?_) (fun hc => ?_)
                  · rw [if_neg hc] at hf
                    refine lv_goto (tgt := 779) hx hb d_L_law_275 (by decide) ?_
                    refine lv_iinc (v := x4 + 4) (lv' := [(4, .int (x4 + 4)), (6, .int o27.1), (5, .int o24.1), (0, .ref b), (1, .ref (ad 0)), (2, .ref (am 0)), (3, .ref q)]) hx hb d_L_law_779 hl (k := 6) rfl rfl (by decide) rfl (fun ls hl => ?_)
                    refine lv_goto (tgt := 23) hx hb d_L_law_782 (by decide) ?_
                    refine W.widen (k := 17 + (it + 1)) (n := 1030 + 6 * (it + 1)) (by omega) (by omega) ?_
                    exact ih (it + 1) (x4 + 4) gB gE gC o24.2.1 gn gF gL gV o27.2.1 mn mB mE mC o27.2.2 mF mL mV o24.2.2 hf (by rw [hx4]; exact lw_next it) (by omega) (by omega) _ _ _ hP hD hS (lv_sub hl [3, 4, 5, 6, 0] rfl)
                  · rw [if_pos hc] at hf
                    refine lv_aload_n hx hb d_L_law_256 rfl (lv_at hl 5 rfl) ?_
                    refine lv_iconst (v := 0) hx hb d_L_law_257 (by decide) ?_
                    refine va_lald (i := 0) hx hb hK hP 16 2 rfl rfl (ix_in (i := 0) (n := 1) (by decide)) d_L_law_258 ?_
                    refine lv_iload hx hb d_L_law_259 (lv_at hl 0 rfl) ?_
                    refine lv_if_eq (tgt := 268) hx hb d_L_law_261 (by decide) (fun hc => ?_) (fun hc => ?_)
                    · rw [if_pos hc] at hf
                      refine lv_lconst (v := 0) hx hb d_L_law_268 (by decide) ?_
                      refine W.lcmp hx hb d_L_law_269 ?_
                      refine lv_if_eq (tgt := 275) hx hb d_L_law_270 (by decide) (fun hc => ?_) (fun hc => ?_)
                      · rw [if_pos (show (lg_cmp (o24.2.2 0) 0) = 0 from hc)] at hf
                        refine lv_goto (tgt := 779) hx hb d_L_law_275 (by decide) ?_
                        refine lv_iinc (v := x4 + 4) (lv' := [(4, .int (x4 + 4)), (6, .int o27.1), (5, .int o24.1), (0, .ref b), (1, .ref (ad 0)), (2, .ref (am 0)), (3, .ref q)]) hx hb d_L_law_779 hl (k := 6) rfl rfl (by decide) rfl (fun ls hl => ?_)
                        refine lv_goto (tgt := 23) hx hb d_L_law_782 (by decide) ?_
                        refine W.widen (k := 17 + (it + 1)) (n := 1030 + 6 * (it + 1)) (by omega) (by omega) ?_
                        exact ih (it + 1) (x4 + 4) gB gE gC o24.2.1 gn gF gL gV o27.2.1 mn mB mE mC o27.2.2 mF mL mV o24.2.2 hf (by rw [hx4]; exact lw_next it) (by omega) (by omega) _ _ _ hP hD hS (lv_sub hl [3, 4, 5, 6, 0] rfl)
                      · rw [if_neg (show ¬ (lg_cmp (o24.2.2 0) 0) = 0 from hc)] at hf
                        refine lv_iconst (v := 0) hx hb d_L_law_273 (by decide) ?_
                        cases hf
                    · rw [if_neg hc] at hf
                      refine lv_lconst (v := 1) hx hb d_L_law_264 (by decide) ?_
                      refine lv_goto (tgt := 269) hx hb d_L_law_265 (by decide) ?_
                      refine W.lcmp hx hb d_L_law_269 ?_
                      refine lv_if_eq (tgt := 275) hx hb d_L_law_270 (by decide) (fun hc => ?_) (fun hc => ?_)
                      · rw [if_pos (show (lg_cmp (o24.2.2 0) 1) = 0 from hc)] at hf
                        refine lv_goto (tgt := 779) hx hb d_L_law_275 (by decide) ?_
                        refine lv_iinc (v := x4 + 4) (lv' := [(4, .int (x4 + 4)), (6, .int o27.1), (5, .int o24.1), (0, .ref b), (1, .ref (ad 0)), (2, .ref (am 0)), (3, .ref q)]) hx hb d_L_law_779 hl (k := 6) rfl rfl (by decide) rfl (fun ls hl => ?_)
                        refine lv_goto (tgt := 23) hx hb d_L_law_782 (by decide) ?_
                        refine W.widen (k := 17 + (it + 1)) (n := 1030 + 6 * (it + 1)) (by omega) (by omega) ?_
                        exact ih (it + 1) (x4 + 4) gB gE gC o24.2.1 gn gF gL gV o27.2.1 mn mB mE mC o27.2.2 mF mL mV o24.2.2 hf (by rw [hx4]; exact lw_next it) (by omega) (by omega) _ _ _ hP hD hS (lv_sub hl [3, 4, 5, 6, 0] rfl)
                      · rw [if_neg (show ¬ (lg_cmp (o24.2.2 0) 1) = 0 from hc)] at hf
                        refine lv_iconst (v := 0) hx hb d_L_law_273 (by decide) ?_
                        cases hf
                · rw [if_neg hc] at hf
                  refine lv_iconst (v := 0) hx hb d_L_law_249 (by decide) ?_
                  cases hf
            · rw [if_neg hc] at hf
              refine lv_iconst (v := 1) hx hb d_L_law_203 (by decide) ?_
              refine lv_goto (tgt := 208) hx hb d_L_law_204 (by decide) ?_
              refine lv_aload_n hx hb d_L_law_208 rfl (lv_at hl 3 rfl) ?_
              obtain ⟨o29, hco29, hf⟩ := fg_ob_some hf
              refine fgL_h (vx_runSW (As := [.ref (ad 0), .int (xs (x4 + 1).toNatClampNeg), .int 1, .ref q]) (rest := []) ⟨hx, hb, hml, hown, hts⟩ (c_L_turn l hst f dC dI cI cZ cJ ad q _ gB gE gC gO gn gF gL gV w (xs (x4 + 1).toNatClampNeg) 1 o29 hco29) (vx_cwSW 4 hts gw_L_64 rfl rfl rfl (by decide +kernel) ⟨Nat.le_of_ble_eq_true rfl, Nat.le_of_ble_eq_true rfl⟩) (hW_pre (A1 := fun z => s.heap.size ≤ z) hK (hP.sub [0, 1, 2, 3, 4, 5, 6, 7, 16] rfl) (hD.sub [0, 1, 2, 3, 4, 5, 6, 7, 16] (by decide) rfl) hS hX hC (va_free hD hS hA [0, 1, 2, 3, 4, 5, 6, 7, 16] rfl)) rfl rfl hl.1 rfl (lv_room (Nat.le_of_ble_eq_true rfl)) d_L_law_209 ⟨lw_cle (by omega), lw_sle (by omega)⟩) hP hD hS hA (fun H locs hP hD hS => ?_)
              refine lv_istore (lv' := [(5, .int o29.1), (0, .ref b), (1, .ref (ad 0)), (2, .ref (am 0)), (3, .ref q), (4, .int x4)]) hx hb d_L_law_212 hl (by decide) rfl (fun ls hl => ?_)
              refine lv_aload_n hx hb d_L_law_214 rfl (lv_at hl 3 rfl) ?_
              refine lv_aload_n hx hb d_L_law_215 rfl (lv_at hl 1 rfl) ?_
              refine lv_iload hx hb d_L_law_216 (lv_at hl 5 rfl) ?_
              refine lv_iconst (v := 1) hx hb d_L_law_218 (by decide) ?_
              refine lv_iadd hx hb d_L_law_219 ?_
              obtain ⟨hi, hf⟩ := fg_og_some hf
              refine va_sld hx hb hXs hbl hbA hS (ix_in hi) d_L_law_220 ?_
              refine lv_aload_n hx hb d_L_law_221 rfl (lv_at hl 1 rfl) ?_
              refine lv_iload hx hb d_L_law_222 (lv_at hl 5 rfl) ?_
              refine lv_iconst (v := 2) hx hb d_L_law_224 (by decide) ?_
              refine lv_iadd hx hb d_L_law_225 ?_
              obtain ⟨hi, hf⟩ := fg_og_some hf
              refine va_sld hx hb hXs hbl hbA hS (ix_in hi) d_L_law_226 ?_
              refine lv_if_eq (tgt := 234) hx hb d_L_law_227 (by decide) (fun hc => ?_) (fun hc => ?_)
              · rw [if_pos hc] at hf
                refine lv_iconst (v := 0) hx hb d_L_law_234 (by decide) ?_
                obtain ⟨o30, hco30, hf⟩ := fg_ob_some hf
                refine fgLm_i (va_runV (As := [.int (xs (x4 + 1).toNatClampNeg), .int 0]) (rest := []) ⟨hx, hb, hml, hown, hts⟩ (c_M_turn l dC dI cI cZ am _ mt mn mB mE mC mO mF mL mV (xs (x4 + 1).toNatClampNeg) 0 o30 hco30) (cwV 2 hts gv_L_67 rfl rfl rfl (by decide +kernel) ⟨Nat.le_of_ble_eq_true rfl, Nat.le_of_ble_eq_true rfl⟩) (mW_pre (A := fun z => s.heap.size ≤ z) hKc (hP.sub [8, 9, 10, 11, 12, 13, 14, 15] rfl) (hD.sub [8, 9, 10, 11, 12, 13, 14, 15] (by decide) rfl)) rfl rfl hl.1 rfl (lv_room (Nat.le_of_ble_eq_true rfl)) d_L_law_235 ⟨lw_cle (by omega), lw_sle (by omega)⟩) hP hD hS hA (fun H locs hP hD hS => ?_)
                refine lv_istore (lv' := [(6, .int o30.1), (5, .int o29.1), (0, .ref b), (1, .ref (ad 0)), (2, .ref (am 0)), (3, .ref q), (4, .int x4)]) hx hb d_L_law_238 hl (by decide) rfl (fun ls hl => ?_)
                refine lv_aload_n hx hb d_L_law_240 rfl (lv_at hl 4 rfl) ?_
                obtain ⟨o31, hco31, hf⟩ := fg_ob_some hf
                refine fgLm_i (va_runV (As := []) (rest := []) ⟨hx, hb, hml, hown, hts⟩ (c_M_thrown l dC dI cI cZ am _ o30.2.1 mn mB mE mC o30.2.2 mF mL mV  o31 hco31) (cwV 0 hts gv_L_60 rfl rfl rfl (by decide +kernel) ⟨Nat.le_of_ble_eq_true rfl, Nat.le_of_ble_eq_true rfl⟩) (mW_pre (A := fun z => s.heap.size ≤ z) hKc (hP.sub [8, 9, 10, 11, 12, 13, 14, 15] rfl) (hD.sub [8, 9, 10, 11, 12, 13, 14, 15] (by decide) rfl)) rfl rfl hl.1 rfl (lv_room (Nat.le_of_ble_eq_true rfl)) d_L_law_241 ⟨lw_cle (by omega), lw_sle (by omega)⟩) hP hD hS hA (fun H locs hP hD hS => ?_)
                refine lv_iload hx hb d_L_law_244 (lv_at hl 1 rfl) ?_
                refine lv_icmp_eq (tgt := 251) hx hb d_L_law_246 (by decide) (fun hc => ?_) (fun hc => ?_)
                · rw [if_pos hc] at hf
                  refine lv_iload hx hb d_L_law_251 (lv_at hl 1 rfl) ?_
                  refine lv_if_ne (tgt := 275) hx hb d_L_law_253 (by decide) (fun hc => ?_) (fun hc => ?_)
                  · rw [if_neg hc] at hf
                    refine lv_goto (tgt := 779) hx hb d_L_law_275 (by decide) ?_
                    refine lv_iinc (v := x4 + 4) (lv' := [(4, .int (x4 + 4)), (6, .int o30.1), (5, .int o29.1), (0, .ref b), (1, .ref (ad 0)), (2, .ref (am 0)), (3, .ref q)]) hx hb d_L_law_779 hl (k := 6) rfl rfl (by decide) rfl (fun ls hl => ?_)
                    refine lv_goto (tgt := 23) hx hb d_L_law_782 (by decide) ?_
                    refine W.widen (k := 17 + (it + 1)) (n := 1030 + 6 * (it + 1)) (by omega) (by omega) ?_
                    exact ih (it + 1) (x4 + 4) gB gE gC o29.2.1 gn gF gL gV o30.2.1 mn mB mE mC o30.2.2 mF mL mV o29.2.2 hf (by rw [hx4]; exact lw_next it) (by omega) (by omega) _ _ _ hP hD hS (lv_sub hl [3, 4, 5, 6, 0] rfl)
                  · rw [if_pos hc] at hf
                    refine lv_aload_n hx hb d_L_law_256 rfl (lv_at hl 5 rfl) ?_
                    refine lv_iconst (v := 0) hx hb d_L_law_257 (by decide) ?_
                    refine va_lald (i := 0) hx hb hK hP 16 2 rfl rfl (ix_in (i := 0) (n := 1) (by decide)) d_L_law_258 ?_
                    refine lv_iload hx hb d_L_law_259 (lv_at hl 0 rfl) ?_
                    refine lv_if_eq (tgt := 268) hx hb d_L_law_261 (by decide) (fun hc => ?_) (fun hc => ?_)
                    · rw [if_pos hc] at hf
                      refine lv_lconst (v := 0) hx hb d_L_law_268 (by decide) ?_
                      refine W.lcmp hx hb d_L_law_269 ?_
                      refine lv_if_eq (tgt := 275) hx hb d_L_law_270 (by decide) (fun hc => ?_) (fun hc => ?_)
                      · rw [if_pos (show (lg_cmp (o29.2.2 0) 0) = 0 from hc)] at hf
                        refine lv_goto (tgt := 779) hx hb d_L_law_275 (by decide) ?_
                        refine lv_iinc (v := x4 + 4) (lv' := [(4, .int (x4 + 4)), (6, .int o30.1), (5, .int o29.1), (0, .ref b), (1, .ref (ad 0)), (2, .ref (am 0)), (3, .ref q)]) hx hb d_L_law_779 hl (k := 6) rfl rfl (by decide) rfl (fun ls hl => ?_)
                        refine lv_goto (tgt := 23) hx hb d_L_law_782 (by decide) ?_
                        refine W.widen (k := 17 + (it + 1)) (n := 1030 + 6 * (it + 1)) (by omega) (by omega) ?_
                        exact ih (it + 1) (x4 + 4) gB gE gC o29.2.1 gn gF gL gV o30.2.1 mn mB mE mC o30.2.2 mF mL mV o29.2.2 hf (by rw [hx4]; exact lw_next it) (by omega) (by omega) _ _ _ hP hD hS (lv_sub hl [3, 4, 5, 6, 0] rfl)
                      · rw [if_neg (show ¬ (lg_cmp (o29.2.2 0) 0) = 0 from hc)] at hf
                        refine lv_iconst (v := 0) hx hb d_L_law_273 (by decide) ?_
                        cases hf
                    · rw [if_neg hc] at hf
                      refine lv_lconst (v := 1) hx hb d_L_law_264 (by decide) ?_
                      refine lv_goto (tgt := 269) hx hb d_L_law_265 (by decide) ?_
                      refine W.lcmp hx hb d_L_law_269 ?_
                      refine lv_if_eq (tgt := 275) hx hb d_L_law_270 (by decide) (fun hc => ?_) (fun hc => ?_)
                      · rw [if_pos (show (lg_cmp (o29.2.2 0) 1) = 0 from hc)] at hf
                        refine lv_goto (tgt := 779) hx hb d_L_law_275 (by decide) ?_
                        refine lv_iinc (v := x4 + 4) (lv' := [(4, .int (x4 + 4)), (6, .int o30.1), (5, .int o29.1), (0, .ref b), (1, .ref (ad 0)), (2, .ref (am 0)), (3, .ref q)]) hx hb d_L_law_779 hl (k := 6) rfl rfl (by decide) rfl (fun ls hl => ?_)
                        refine lv_goto (tgt := 23) hx hb d_L_law_782 (by decide) ?_
                        refine W.widen (k := 17 + (it + 1)) (n := 1030 + 6 * (it + 1)) (by omega) (by omega) ?_
                        exact ih (it + 1) (x4 + 4) gB gE gC o29.2.1 gn gF gL gV o30.2.1 mn mB mE mC o30.2.2 mF mL mV o29.2.2 hf (by rw [hx4]; exact lw_next it) (by omega) (by omega) _ _ _ hP hD hS (lv_sub hl [3, 4, 5, 6, 0] rfl)
                      · rw [if_neg (show ¬ (lg_cmp (o29.2.2 0) 1) = 0 from hc)] at hf
                        refine lv_iconst (v := 0) hx hb d_L_law_273 (by decide) ?_
                        cases hf
                · rw [if_neg hc] at hf
                  refine lv_iconst (v := 0) hx hb d_L_law_249 (by decide) ?_
                  cases hf
              · rw [if_neg hc] at hf
                refine lv_iconst (v := 1) hx hb d_L_law_230 (by decide) ?_
                refine lv_goto (tgt := 235) hx hb d_L_law_231 (by decide) ?_
                obtain ⟨o32, hco32, hf⟩ := fg_ob_some hf
                refine fgLm_i (va_runV (As := [.int (xs (x4 + 1).toNatClampNeg), .int 1]) (rest := []) ⟨hx, hb, hml, hown, hts⟩ (c_M_turn l dC dI cI cZ am _ mt mn mB mE mC mO mF mL mV (xs (x4 + 1).toNatClampNeg) 1 o32 hco32) (cwV 2 hts gv_L_67 rfl rfl rfl (by decide +kernel) ⟨Nat.le_of_ble_eq_true rfl, Nat.le_of_ble_eq_true rfl⟩) (mW_pre (A := fun z => s.heap.size ≤ z) hKc (hP.sub [8, 9, 10, 11, 12, 13, 14, 15] rfl) (hD.sub [8, 9, 10, 11, 12, 13, 14, 15] (by decide) rfl)) rfl rfl hl.1 rfl (lv_room (Nat.le_of_ble_eq_true rfl)) d_L_law_235 ⟨lw_cle (by omega), lw_sle (by omega)⟩) hP hD hS hA (fun H locs hP hD hS => ?_)
                refine lv_istore (lv' := [(6, .int o32.1), (5, .int o29.1), (0, .ref b), (1, .ref (ad 0)), (2, .ref (am 0)), (3, .ref q), (4, .int x4)]) hx hb d_L_law_238 hl (by decide) rfl (fun ls hl => ?_)
                refine lv_aload_n hx hb d_L_law_240 rfl (lv_at hl 4 rfl) ?_
                obtain ⟨o33, hco33, hf⟩ := fg_ob_some hf
                refine fgLm_i (va_runV (As := []) (rest := []) ⟨hx, hb, hml, hown, hts⟩ (c_M_thrown l dC dI cI cZ am _ o32.2.1 mn mB mE mC o32.2.2 mF mL mV  o33 hco33) (cwV 0 hts gv_L_60 rfl rfl rfl (by decide +kernel) ⟨Nat.le_of_ble_eq_true rfl, Nat.le_of_ble_eq_true rfl⟩) (mW_pre (A := fun z => s.heap.size ≤ z) hKc (hP.sub [8, 9, 10, 11, 12, 13, 14, 15] rfl) (hD.sub [8, 9, 10, 11, 12, 13, 14, 15] (by decide) rfl)) rfl rfl hl.1 rfl (lv_room (Nat.le_of_ble_eq_true rfl)) d_L_law_241 ⟨lw_cle (by omega), lw_sle (by omega)⟩) hP hD hS hA (fun H locs hP hD hS => ?_)
                refine lv_iload hx hb d_L_law_244 (lv_at hl 1 rfl) ?_
                refine lv_icmp_eq (tgt := 251) hx hb d_L_law_246 (by decide) (fun hc => ?_) (fun hc => ?_)
                · rw [if_pos hc] at hf
                  refine lv_iload hx hb d_L_law_251 (lv_at hl 1 rfl) ?_
                  refine lv_if_ne (tgt := 275) hx hb d_L_law_253 (by decide) (fun hc => ?_) (fun hc => ?_)
                  · rw [if_neg hc] at hf
                    refine lv_goto (tgt := 779) hx hb d_L_law_275 (by decide) ?_
                    refine lv_iinc (v := x4 + 4) (lv' := [(4, .int (x4 + 4)), (6, .int o32.1), (5, .int o29.1), (0, .ref b), (1, .ref (ad 0)), (2, .ref (am 0)), (3, .ref q)]) hx hb d_L_law_779 hl (k := 6) rfl rfl (by decide) rfl (fun ls hl => ?_)
                    refine lv_goto (tgt := 23) hx hb d_L_law_782 (by decide) ?_
                    refine W.widen (k := 17 + (it + 1)) (n := 1030 + 6 * (it + 1)) (by omega) (by omega) ?_
                    exact ih (it + 1) (x4 + 4) gB gE gC o29.2.1 gn gF gL gV o32.2.1 mn mB mE mC o32.2.2 mF mL mV o29.2.2 hf (by rw [hx4]; exact lw_next it) (by omega) (by omega) _ _ _ hP hD hS (lv_sub hl [3, 4, 5, 6, 0] rfl)
                  · rw [if_pos hc] at hf
                    refine lv_aload_n hx hb d_L_law_256 rfl (lv_at hl 5 rfl) ?_
                    refine lv_iconst (v := 0) hx hb d_L_law_257 (by decide) ?_
                    refine va_lald (i := 0) hx hb hK hP 16 2 rfl rfl (ix_in (i := 0) (n := 1) (by decide)) d_L_law_258 ?_
                    refine lv_iload hx hb d_L_law_259 (lv_at hl 0 rfl) ?_
                    refine lv_if_eq (tgt := 268) hx hb d_L_law_261 (by decide) (fun hc => ?_) (fun hc => ?_)
                    · rw [if_pos hc] at hf
                      refine lv_lconst (v := 0) hx hb d_L_law_268 (by decide) ?_
                      refine W.lcmp hx hb d_L_law_269 ?_
                      refine lv_if_eq (tgt := 275) hx hb d_L_law_270 (by decide) (fun hc => ?_) (fun hc => ?_)
                      · rw [if_pos (show (lg_cmp (o29.2.2 0) 0) = 0 from hc)] at hf
                        refine lv_goto (tgt := 779) hx hb d_L_law_275 (by decide) ?_
                        refine lv_iinc (v := x4 + 4) (lv' := [(4, .int (x4 + 4)), (6, .int o32.1), (5, .int o29.1), (0, .ref b), (1, .ref (ad 0)), (2, .ref (am 0)), (3, .ref q)]) hx hb d_L_law_779 hl (k := 6) rfl rfl (by decide) rfl (fun ls hl => ?_)
                        refine lv_goto (tgt := 23) hx hb d_L_law_782 (by decide) ?_
                        refine W.widen (k := 17 + (it + 1)) (n := 1030 + 6 * (it + 1)) (by omega) (by omega) ?_
                        exact ih (it + 1) (x4 + 4) gB gE gC o29.2.1 gn gF gL gV o32.2.1 mn mB mE mC o32.2.2 mF mL mV o29.2.2 hf (by rw [hx4]; exact lw_next it) (by omega) (by omega) _ _ _ hP hD hS (lv_sub hl [3, 4, 5, 6, 0] rfl)
                      · rw [if_neg (show ¬ (lg_cmp (o29.2.2 0) 0) = 0 from hc)] at hf
                        refine lv_iconst (v := 0) hx hb d_L_law_273 (by decide) ?_
                        cases hf
                    · rw [if_neg hc] at hf
                      refine lv_lconst (v := 1) hx hb d_L_law_264 (by decide) ?_
                      refine lv_goto (tgt := 269) hx hb d_L_law_265 (by decide) ?_
                      refine W.lcmp hx hb d_L_law_269 ?_
                      refine lv_if_eq (tgt := 275) hx hb d_L_law_270 (by decide) (fun hc => ?_) (fun hc => ?_)
                      · rw [if_pos (show (lg_cmp (o29.2.2 0) 1) = 0 from hc)] at hf
                        refine lv_goto (tgt := 779) hx hb d_L_law_275 (by decide) ?_
                        refine lv_iinc (v := x4 + 4) (lv' := [(4, .int (x4 + 4)), (6, .int o32.1), (5, .int o29.1), (0, .ref b), (1, .ref (ad 0)), (2, .ref (am 0)), (3, .ref q)]) hx hb d_L_law_779 hl (k := 6) rfl rfl (by decide) rfl (fun ls hl => ?_)
                        refine lv_goto (tgt := 23) hx hb d_L_law_782 (by decide) ?_
                        refine W.widen (k := 17 + (it + 1)) (n := 1030 + 6 * (it + 1)) (by omega) (by omega) ?_
                        exact ih (it + 1) (x4 + 4) gB gE gC o29.2.1 gn gF gL gV o32.2.1 mn mB mE mC o32.2.2 mF mL mV o29.2.2 hf (by rw [hx4]; exact lw_next it) (by omega) (by omega) _ _ _ hP hD hS (lv_sub hl [3, 4, 5, 6, 0] rfl)
                      · rw [if_neg (show ¬ (lg_cmp (o29.2.2 0) 1) = 0 from hc)] at hf
                        refine lv_iconst (v := 0) hx hb d_L_law_273 (by decide) ?_
                        cases hf
                · rw [if_neg hc] at hf
                  refine lv_iconst (v := 0) hx hb d_L_law_249 (by decide) ?_
                  cases hf
          · rw [if_neg h2] at hf
            by_cases h3 : v = 3
            · rw [if_pos h3] at hf
              subst h3
              refine lv_tableIn (tgt := 278) hx hb d_L_law_39 (by decide) (by decide) rfl (by decide) ?_
              refine lv_aload_n hx hb d_L_law_278 rfl (lv_at hl 1 rfl) ?_
              refine lv_aload_n hx hb d_L_law_279 rfl (lv_at hl 0 rfl) ?_
              refine lv_iload hx hb d_L_law_280 (lv_at hl 4 rfl) ?_
              refine lv_iconst (v := 1) hx hb d_L_law_282 (by decide) ?_
              refine lv_iadd hx hb d_L_law_283 ?_
              obtain ⟨hi, hf⟩ := fg_og_some hf
              refine va_sld hx hb hXs hbl hbA hS (ix_in hi) d_L_law_284 ?_
              refine lv_aload_n hx hb d_L_law_285 rfl (lv_at hl 0 rfl) ?_
              refine lv_iload hx hb d_L_law_286 (lv_at hl 4 rfl) ?_
              refine lv_iconst (v := 2) hx hb d_L_law_288 (by decide) ?_
              refine lv_iadd hx hb d_L_law_289 ?_
              obtain ⟨hi, hf⟩ := fg_og_some hf
              refine va_sld hx hb hXs hbl hbA hS (ix_in hi) d_L_law_290 ?_
              refine lv_aload_n hx hb d_L_law_291 rfl (lv_at hl 3 rfl) ?_
              obtain ⟨o21, hco21, hf⟩ := fg_ob_some hf
              refine fgL_h (vx_runSW (As := [.ref (ad 0), .int (xs (x4 + 1).toNatClampNeg), .int (xs (x4 + 2).toNatClampNeg), .ref q]) (rest := []) ⟨hx, hb, hml, hown, hts⟩ (c_L_length l hst f dC dI cI cZ cJ ad q _ gB gE gC gO gn gF gL gV w (xs (x4 + 1).toNatClampNeg) (xs (x4 + 2).toNatClampNeg) o21 hco21) (vx_cwSW 4 hts gw_L_68 rfl rfl rfl (by decide +kernel) ⟨Nat.le_of_ble_eq_true rfl, Nat.le_of_ble_eq_true rfl⟩) (hW_pre (A1 := fun z => s.heap.size ≤ z) hK (hP.sub [0, 1, 2, 3, 4, 5, 6, 7, 16] rfl) (hD.sub [0, 1, 2, 3, 4, 5, 6, 7, 16] (by decide) rfl) hS hX hC (va_free hD hS hA [0, 1, 2, 3, 4, 5, 6, 7, 16] rfl)) rfl rfl hl.1 rfl (lv_room (Nat.le_of_ble_eq_true rfl)) d_L_law_292 ⟨lw_cle (by omega), lw_sle (by omega)⟩) hP hD hS hA (fun H locs hP hD hS => ?_)
              refine lv_istore (lv' := [(5, .int o21.1), (0, .ref b), (1, .ref (ad 0)), (2, .ref (am 0)), (3, .ref q), (4, .int x4)]) hx hb d_L_law_295 hl (by decide) rfl (fun ls hl => ?_)
              refine lv_aload_n hx hb d_L_law_297 rfl (lv_at hl 3 rfl) ?_
              refine lv_aload_n hx hb d_L_law_298 rfl (lv_at hl 1 rfl) ?_
              refine lv_iload hx hb d_L_law_299 (lv_at hl 5 rfl) ?_
              refine lv_iconst (v := 1) hx hb d_L_law_301 (by decide) ?_
              refine lv_iadd hx hb d_L_law_302 ?_
              obtain ⟨hi, hf⟩ := fg_og_some hf
              refine va_sld hx hb hXs hbl hbA hS (ix_in hi) d_L_law_303 ?_
              refine lv_aload_n hx hb d_L_law_304 rfl (lv_at hl 1 rfl) ?_
              refine lv_iload hx hb d_L_law_305 (lv_at hl 5 rfl) ?_
              refine lv_iconst (v := 2) hx hb d_L_law_307 (by decide) ?_
              refine lv_iadd hx hb d_L_law_308 ?_
              obtain ⟨hi, hf⟩ := fg_og_some hf
              refine va_sld hx hb hXs hbl hbA hS (ix_in hi) d_L_law_309 ?_
              obtain ⟨o22, hco22, hf⟩ := fg_ob_some hf
              refine fgLm_i (va_runV (As := [.int (xs (x4 + 1).toNatClampNeg), .int (xs (x4 + 2).toNatClampNeg)]) (rest := []) ⟨hx, hb, hml, hown, hts⟩ (c_M_length l dC dI cI cZ am _ mt mn mB mE mC mO mF mL mV (xs (x4 + 1).toNatClampNeg) (xs (x4 + 2).toNatClampNeg) o22 hco22) (cwV 2 hts gv_L_71 rfl rfl rfl (by decide +kernel) ⟨Nat.le_of_ble_eq_true rfl, Nat.le_of_ble_eq_true rfl⟩) (mW_pre (A := fun z => s.heap.size ≤ z) hKc (hP.sub [8, 9, 10, 11, 12, 13, 14, 15] rfl) (hD.sub [8, 9, 10, 11, 12, 13, 14, 15] (by decide) rfl)) rfl rfl hl.1 rfl (lv_room (Nat.le_of_ble_eq_true rfl)) d_L_law_310 ⟨lw_cle (by omega), lw_sle (by omega)⟩) hP hD hS hA (fun H locs hP hD hS => ?_)
              refine lv_istore (lv' := [(6, .int o22.1), (5, .int o21.1), (0, .ref b), (1, .ref (ad 0)), (2, .ref (am 0)), (3, .ref q), (4, .int x4)]) hx hb d_L_law_313 hl (by decide) rfl (fun ls hl => ?_)
              refine lv_aload_n hx hb d_L_law_315 rfl (lv_at hl 4 rfl) ?_
              obtain ⟨o23, hco23, hf⟩ := fg_ob_some hf
              refine fgLm_i (va_runV (As := []) (rest := []) ⟨hx, hb, hml, hown, hts⟩ (c_M_thrown l dC dI cI cZ am _ o22.2.1 mn mB mE mC mO o22.2.2 mL mV  o23 hco23) (cwV 0 hts gv_L_60 rfl rfl rfl (by decide +kernel) ⟨Nat.le_of_ble_eq_true rfl, Nat.le_of_ble_eq_true rfl⟩) (mW_pre (A := fun z => s.heap.size ≤ z) hKc (hP.sub [8, 9, 10, 11, 12, 13, 14, 15] rfl) (hD.sub [8, 9, 10, 11, 12, 13, 14, 15] (by decide) rfl)) rfl rfl hl.1 rfl (lv_room (Nat.le_of_ble_eq_true rfl)) d_L_law_316 ⟨lw_cle (by omega), lw_sle (by omega)⟩) hP hD hS hA (fun H locs hP hD hS => ?_)
              refine lv_iload hx hb d_L_law_319 (lv_at hl 1 rfl) ?_
              refine lv_icmp_eq (tgt := 326) hx hb d_L_law_321 (by decide) (fun hc => ?_) (fun hc => ?_)
              · rw [if_pos hc] at hf
                refine lv_iload hx hb d_L_law_326 (lv_at hl 1 rfl) ?_
                refine lv_if_ne (tgt := 343) hx hb d_L_law_328 (by decide) (fun hc => ?_) (fun hc => ?_)
                · rw [if_neg hc] at hf
                  refine lv_goto (tgt := 779) hx hb d_L_law_343 (by decide) ?_
                  refine lv_iinc (v := x4 + 4) (lv' := [(4, .int (x4 + 4)), (6, .int o22.1), (5, .int o21.1), (0, .ref b), (1, .ref (ad 0)), (2, .ref (am 0)), (3, .ref q)]) hx hb d_L_law_779 hl (k := 6) rfl rfl (by decide) rfl (fun ls hl => ?_)
                  refine lv_goto (tgt := 23) hx hb d_L_law_782 (by decide) ?_
                  refine W.widen (k := 17 + (it + 1)) (n := 1030 + 6 * (it + 1)) (by omega) (by omega) ?_
                  exact ih (it + 1) (x4 + 4) gB gE gC gO gn o21.2.1 gL gV o22.2.1 mn mB mE mC mO o22.2.2 mL mV o21.2.2 hf (by rw [hx4]; exact lw_next it) (by omega) (by omega) _ _ _ hP hD hS (lv_sub hl [3, 4, 5, 6, 0] rfl)
                · rw [if_pos hc] at hf
                  refine lv_aload_n hx hb d_L_law_331 rfl (lv_at hl 5 rfl) ?_
                  refine lv_iconst (v := 0) hx hb d_L_law_332 (by decide) ?_
                  refine va_lald (i := 0) hx hb hK hP 16 2 rfl rfl (ix_in (i := 0) (n := 1) (by decide)) d_L_law_333 ?_
                  refine lv_iload hx hb d_L_law_334 (lv_at hl 0 rfl) ?_
                  refine lv_i2l hx hb d_L_law_336 rfl ?_
                  refine W.lcmp hx hb d_L_law_337 ?_
                  refine lv_if_eq (tgt := 343) hx hb d_L_law_338 (by decide) (fun hc => ?_) (fun hc => ?_)
                  · rw [if_pos (show (lg_cmp (o21.2.2 0) o22.1.toInt64) = 0 from hc)] at hf
                    refine lv_goto (tgt := 779) hx hb d_L_law_343 (by decide) ?_
                    refine lv_iinc (v := x4 + 4) (lv' := [(4, .int (x4 + 4)), (6, .int o22.1), (5, .int o21.1), (0, .ref b), (1, .ref (ad 0)), (2, .ref (am 0)), (3, .ref q)]) hx hb d_L_law_779 hl (k := 6) rfl rfl (by decide) rfl (fun ls hl => ?_)
                    refine lv_goto (tgt := 23) hx hb d_L_law_782 (by decide) ?_
                    refine W.widen (k := 17 + (it + 1)) (n := 1030 + 6 * (it + 1)) (by omega) (by omega) ?_
                    exact ih (it + 1) (x4 + 4) gB gE gC gO gn o21.2.1 gL gV o22.2.1 mn mB mE mC mO o22.2.2 mL mV o21.2.2 hf (by rw [hx4]; exact lw_next it) (by omega) (by omega) _ _ _ hP hD hS (lv_sub hl [3, 4, 5, 6, 0] rfl)
                  · rw [if_neg (show ¬ (lg_cmp (o21.2.2 0) o22.1.toInt64) = 0 from hc)] at hf
                    refine lv_iconst (v := 0) hx hb d_L_law_341 (by decide) ?_
                    cases hf
              · rw [if_neg hc] at hf
                refine lv_iconst (v := 0) hx hb d_L_law_324 (by decide) ?_
                cases hf
            · rw [if_neg h3] at hf
              by_cases h4 : v = 4
              · rw [if_pos h4] at hf
                subst h4
                refine lv_tableIn (tgt := 346) hx hb d_L_law_39 (by decide) (by decide) rfl (by decide) ?_
                refine lv_aload_n hx hb d_L_law_346 rfl (lv_at hl 1 rfl) ?_
                refine lv_aload_n hx hb d_L_law_347 rfl (lv_at hl 0 rfl) ?_
                refine lv_iload hx hb d_L_law_348 (lv_at hl 4 rfl) ?_
                refine lv_iconst (v := 1) hx hb d_L_law_350 (by decide) ?_
                refine lv_iadd hx hb d_L_law_351 ?_
                obtain ⟨hi, hf⟩ := fg_og_some hf
                refine va_sld hx hb hXs hbl hbA hS (ix_in hi) d_L_law_352 ?_
                refine lv_aload_n hx hb d_L_law_353 rfl (lv_at hl 0 rfl) ?_
                refine lv_iload hx hb d_L_law_354 (lv_at hl 4 rfl) ?_
                refine lv_iconst (v := 2) hx hb d_L_law_356 (by decide) ?_
                refine lv_iadd hx hb d_L_law_357 ?_
                obtain ⟨hi, hf⟩ := fg_og_some hf
                refine va_sld hx hb hXs hbl hbA hS (ix_in hi) d_L_law_358 ?_
                refine lv_aload_n hx hb d_L_law_359 rfl (lv_at hl 0 rfl) ?_
                refine lv_iload hx hb d_L_law_360 (lv_at hl 4 rfl) ?_
                refine lv_iconst (v := 3) hx hb d_L_law_362 (by decide) ?_
                refine lv_iadd hx hb d_L_law_363 ?_
                obtain ⟨hi, hf⟩ := fg_og_some hf
                refine va_sld hx hb hXs hbl hbA hS (ix_in hi) d_L_law_364 ?_
                refine lv_aload_n hx hb d_L_law_365 rfl (lv_at hl 3 rfl) ?_
                obtain ⟨o18, hco18, hf⟩ := fg_ob_some hf
                refine fgL_h (vx_runSW (As := [.ref (ad 0), .int (xs (x4 + 1).toNatClampNeg), .int (xs (x4 + 2).toNatClampNeg), .int (xs (x4 + 3).toNatClampNeg), .ref q]) (rest := []) ⟨hx, hb, hml, hown, hts⟩ (c_L_step l hst f dC dI cI cZ cJ ad q _ gB gE gC gO gn gF gL gV w (xs (x4 + 1).toNatClampNeg) (xs (x4 + 2).toNatClampNeg) (xs (x4 + 3).toNatClampNeg) o18 hco18) (vx_cwSW 5 hts gw_L_72 rfl rfl rfl (by decide +kernel) ⟨Nat.le_of_ble_eq_true rfl, Nat.le_of_ble_eq_true rfl⟩) (hW_pre (A1 := fun z => s.heap.size ≤ z) hK (hP.sub [0, 1, 2, 3, 4, 5, 6, 7, 16] rfl) (hD.sub [0, 1, 2, 3, 4, 5, 6, 7, 16] (by decide) rfl) hS hX hC (va_free hD hS hA [0, 1, 2, 3, 4, 5, 6, 7, 16] rfl)) rfl rfl hl.1 rfl (lv_room (Nat.le_of_ble_eq_true rfl)) d_L_law_366 ⟨lw_cle (by omega), lw_sle (by omega)⟩) hP hD hS hA (fun H locs hP hD hS => ?_)
                refine lv_istore (lv' := [(5, .int o18.1), (0, .ref b), (1, .ref (ad 0)), (2, .ref (am 0)), (3, .ref q), (4, .int x4)]) hx hb d_L_law_369 hl (by decide) rfl (fun ls hl => ?_)
                refine lv_aload_n hx hb d_L_law_371 rfl (lv_at hl 3 rfl) ?_
                refine lv_aload_n hx hb d_L_law_372 rfl (lv_at hl 1 rfl) ?_
                refine lv_iload hx hb d_L_law_373 (lv_at hl 5 rfl) ?_
                refine lv_iconst (v := 1) hx hb d_L_law_375 (by decide) ?_
                refine lv_iadd hx hb d_L_law_376 ?_
                obtain ⟨hi, hf⟩ := fg_og_some hf
                refine va_sld hx hb hXs hbl hbA hS (ix_in hi) d_L_law_377 ?_
                refine lv_aload_n hx hb d_L_law_378 rfl (lv_at hl 1 rfl) ?_
                refine lv_iload hx hb d_L_law_379 (lv_at hl 5 rfl) ?_
                refine lv_iconst (v := 2) hx hb d_L_law_381 (by decide) ?_
                refine lv_iadd hx hb d_L_law_382 ?_
                obtain ⟨hi, hf⟩ := fg_og_some hf
                refine va_sld hx hb hXs hbl hbA hS (ix_in hi) d_L_law_383 ?_
                refine lv_aload_n hx hb d_L_law_384 rfl (lv_at hl 1 rfl) ?_
                refine lv_iload hx hb d_L_law_385 (lv_at hl 5 rfl) ?_
                refine lv_iconst (v := 3) hx hb d_L_law_387 (by decide) ?_
                refine lv_iadd hx hb d_L_law_388 ?_
                obtain ⟨hi, hf⟩ := fg_og_some hf
                refine va_sld hx hb hXs hbl hbA hS (ix_in hi) d_L_law_389 ?_
                obtain ⟨o19, hco19, hf⟩ := fg_ob_some hf
                refine fgLm_i (va_runV (As := [.int (xs (x4 + 1).toNatClampNeg), .int (xs (x4 + 2).toNatClampNeg), .int (xs (x4 + 3).toNatClampNeg)]) (rest := []) ⟨hx, hb, hml, hown, hts⟩ (c_M_step l dC dI cI cZ am _ mt mn mB mE mC mO mF mL mV (xs (x4 + 1).toNatClampNeg) (xs (x4 + 2).toNatClampNeg) (xs (x4 + 3).toNatClampNeg) o19 hco19) (cwV 3 hts gv_L_74 rfl rfl rfl (by decide +kernel) ⟨Nat.le_of_ble_eq_true rfl, Nat.le_of_ble_eq_true rfl⟩) (mW_pre (A := fun z => s.heap.size ≤ z) hKc (hP.sub [8, 9, 10, 11, 12, 13, 14, 15] rfl) (hD.sub [8, 9, 10, 11, 12, 13, 14, 15] (by decide) rfl)) rfl rfl hl.1 rfl (lv_room (Nat.le_of_ble_eq_true rfl)) d_L_law_390 ⟨lw_cle (by omega), lw_sle (by omega)⟩) hP hD hS hA (fun H locs hP hD hS => ?_)
                refine lv_istore (lv' := [(6, .int o19.1), (5, .int o18.1), (0, .ref b), (1, .ref (ad 0)), (2, .ref (am 0)), (3, .ref q), (4, .int x4)]) hx hb d_L_law_393 hl (by decide) rfl (fun ls hl => ?_)
                refine lv_aload_n hx hb d_L_law_395 rfl (lv_at hl 4 rfl) ?_
                obtain ⟨o20, hco20, hf⟩ := fg_ob_some hf
                refine fgLm_i (va_runV (As := []) (rest := []) ⟨hx, hb, hml, hown, hts⟩ (c_M_thrown l dC dI cI cZ am _ o19.2.1 mn mB mE mC mO o19.2.2 mL mV  o20 hco20) (cwV 0 hts gv_L_60 rfl rfl rfl (by decide +kernel) ⟨Nat.le_of_ble_eq_true rfl, Nat.le_of_ble_eq_true rfl⟩) (mW_pre (A := fun z => s.heap.size ≤ z) hKc (hP.sub [8, 9, 10, 11, 12, 13, 14, 15] rfl) (hD.sub [8, 9, 10, 11, 12, 13, 14, 15] (by decide) rfl)) rfl rfl hl.1 rfl (lv_room (Nat.le_of_ble_eq_true rfl)) d_L_law_396 ⟨lw_cle (by omega), lw_sle (by omega)⟩) hP hD hS hA (fun H locs hP hD hS => ?_)
                refine lv_iload hx hb d_L_law_399 (lv_at hl 1 rfl) ?_
                refine lv_icmp_eq (tgt := 406) hx hb d_L_law_401 (by decide) (fun hc => ?_) (fun hc => ?_)
                · rw [if_pos hc] at hf
                  refine lv_iload hx hb d_L_law_406 (lv_at hl 1 rfl) ?_
                  refine lv_if_ne (tgt := 423) hx hb d_L_law_408 (by decide) (fun hc => ?_) (fun hc => ?_)
                  · rw [if_neg hc] at hf
                    refine lv_goto (tgt := 779) hx hb d_L_law_423 (by decide) ?_
                    refine lv_iinc (v := x4 + 4) (lv' := [(4, .int (x4 + 4)), (6, .int o19.1), (5, .int o18.1), (0, .ref b), (1, .ref (ad 0)), (2, .ref (am 0)), (3, .ref q)]) hx hb d_L_law_779 hl (k := 6) rfl rfl (by decide) rfl (fun ls hl => ?_)
                    refine lv_goto (tgt := 23) hx hb d_L_law_782 (by decide) ?_
                    refine W.widen (k := 17 + (it + 1)) (n := 1030 + 6 * (it + 1)) (by omega) (by omega) ?_
                    exact ih (it + 1) (x4 + 4) gB gE gC gO gn o18.2.1 gL gV o19.2.1 mn mB mE mC mO o19.2.2 mL mV o18.2.2 hf (by rw [hx4]; exact lw_next it) (by omega) (by omega) _ _ _ hP hD hS (lv_sub hl [3, 4, 5, 6, 0] rfl)
                  · rw [if_pos hc] at hf
                    refine lv_aload_n hx hb d_L_law_411 rfl (lv_at hl 5 rfl) ?_
                    refine lv_iconst (v := 0) hx hb d_L_law_412 (by decide) ?_
                    refine va_lald (i := 0) hx hb hK hP 16 2 rfl rfl (ix_in (i := 0) (n := 1) (by decide)) d_L_law_413 ?_
                    refine lv_iload hx hb d_L_law_414 (lv_at hl 0 rfl) ?_
                    refine lv_i2l hx hb d_L_law_416 rfl ?_
                    refine W.lcmp hx hb d_L_law_417 ?_
                    refine lv_if_eq (tgt := 423) hx hb d_L_law_418 (by decide) (fun hc => ?_) (fun hc => ?_)
                    · rw [if_pos (show (lg_cmp (o18.2.2 0) o19.1.toInt64) = 0 from hc)] at hf
                      refine lv_goto (tgt := 779) hx hb d_L_law_423 (by decide) ?_
                      refine lv_iinc (v := x4 + 4) (lv' := [(4, .int (x4 + 4)), (6, .int o19.1), (5, .int o18.1), (0, .ref b), (1, .ref (ad 0)), (2, .ref (am 0)), (3, .ref q)]) hx hb d_L_law_779 hl (k := 6) rfl rfl (by decide) rfl (fun ls hl => ?_)
                      refine lv_goto (tgt := 23) hx hb d_L_law_782 (by decide) ?_
                      refine W.widen (k := 17 + (it + 1)) (n := 1030 + 6 * (it + 1)) (by omega) (by omega) ?_
                      exact ih (it + 1) (x4 + 4) gB gE gC gO gn o18.2.1 gL gV o19.2.1 mn mB mE mC mO o19.2.2 mL mV o18.2.2 hf (by rw [hx4]; exact lw_next it) (by omega) (by omega) _ _ _ hP hD hS (lv_sub hl [3, 4, 5, 6, 0] rfl)
                    · rw [if_neg (show ¬ (lg_cmp (o18.2.2 0) o19.1.toInt64) = 0 from hc)] at hf
                      refine lv_iconst (v := 0) hx hb d_L_law_421 (by decide) ?_
                      cases hf
                · rw [if_neg hc] at hf
                  refine lv_iconst (v := 0) hx hb d_L_law_404 (by decide) ?_
                  cases hf
              · rw [if_neg h4] at hf
                by_cases h5 : v = 5
                · rw [if_pos h5] at hf
                  subst h5
                  refine lv_tableIn (tgt := 426) hx hb d_L_law_39 (by decide) (by decide) rfl (by decide) ?_
                  refine lv_aload_n hx hb d_L_law_426 rfl (lv_at hl 1 rfl) ?_
                  refine lv_aload_n hx hb d_L_law_427 rfl (lv_at hl 0 rfl) ?_
                  refine lv_iload hx hb d_L_law_428 (lv_at hl 4 rfl) ?_
                  refine lv_iconst (v := 1) hx hb d_L_law_430 (by decide) ?_
                  refine lv_iadd hx hb d_L_law_431 ?_
                  obtain ⟨hi, hf⟩ := fg_og_some hf
                  refine va_sld hx hb hXs hbl hbA hS (ix_in hi) d_L_law_432 ?_
                  refine lv_aload_n hx hb d_L_law_433 rfl (lv_at hl 0 rfl) ?_
                  refine lv_iload hx hb d_L_law_434 (lv_at hl 4 rfl) ?_
                  refine lv_iconst (v := 2) hx hb d_L_law_436 (by decide) ?_
                  refine lv_iadd hx hb d_L_law_437 ?_
                  obtain ⟨hi, hf⟩ := fg_og_some hf
                  refine va_sld hx hb hXs hbl hbA hS (ix_in hi) d_L_law_438 ?_
                  refine lv_aload_n hx hb d_L_law_439 rfl (lv_at hl 3 rfl) ?_
                  obtain ⟨o15, hco15, hf⟩ := fg_ob_some hf
                  refine fgL_h (vx_runSW (As := [.ref (ad 0), .int (xs (x4 + 1).toNatClampNeg), .int (xs (x4 + 2).toNatClampNeg), .ref q]) (rest := []) ⟨hx, hb, hml, hown, hts⟩ (c_L_passed l hst f dC dI cI cZ cJ ad q _ gB gE gC gO gn gF gL gV w (xs (x4 + 1).toNatClampNeg) (xs (x4 + 2).toNatClampNeg) o15 hco15) (vx_cwSW 4 hts gw_L_75 rfl rfl rfl (by decide +kernel) ⟨Nat.le_of_ble_eq_true rfl, Nat.le_of_ble_eq_true rfl⟩) (hW_pre (A1 := fun z => s.heap.size ≤ z) hK (hP.sub [0, 1, 2, 3, 4, 5, 6, 7, 16] rfl) (hD.sub [0, 1, 2, 3, 4, 5, 6, 7, 16] (by decide) rfl) hS hX hC (va_free hD hS hA [0, 1, 2, 3, 4, 5, 6, 7, 16] rfl)) rfl rfl hl.1 rfl (lv_room (Nat.le_of_ble_eq_true rfl)) d_L_law_440 ⟨lw_cle (by omega), lw_sle (by omega)⟩) hP hD hS hA (fun H locs hP hD hS => ?_)
                  refine lv_istore (lv' := [(5, .int o15.1), (0, .ref b), (1, .ref (ad 0)), (2, .ref (am 0)), (3, .ref q), (4, .int x4)]) hx hb d_L_law_443 hl (by decide) rfl (fun ls hl => ?_)
                  refine lv_aload_n hx hb d_L_law_445 rfl (lv_at hl 3 rfl) ?_
                  refine lv_aload_n hx hb d_L_law_446 rfl (lv_at hl 1 rfl) ?_
                  refine lv_iload hx hb d_L_law_447 (lv_at hl 5 rfl) ?_
                  refine lv_iconst (v := 1) hx hb d_L_law_449 (by decide) ?_
                  refine lv_iadd hx hb d_L_law_450 ?_
                  obtain ⟨hi, hf⟩ := fg_og_some hf
                  refine va_sld hx hb hXs hbl hbA hS (ix_in hi) d_L_law_451 ?_
                  refine lv_aload_n hx hb d_L_law_452 rfl (lv_at hl 1 rfl) ?_
                  refine lv_iload hx hb d_L_law_453 (lv_at hl 5 rfl) ?_
                  refine lv_iconst (v := 2) hx hb d_L_law_455 (by decide) ?_
                  refine lv_iadd hx hb d_L_law_456 ?_
                  obtain ⟨hi, hf⟩ := fg_og_some hf
                  refine va_sld hx hb hXs hbl hbA hS (ix_in hi) d_L_law_457 ?_
                  obtain ⟨o16, hco16, hf⟩ := fg_ob_some hf
                  refine fgLm_i (va_runV (As := [.int (xs (x4 + 1).toNatClampNeg), .int (xs (x4 + 2).toNatClampNeg)]) (rest := []) ⟨hx, hb, hml, hown, hts⟩ (c_M_passed l dC dI cI cZ am _ mt mn mB mE mC mO mF mL mV (xs (x4 + 1).toNatClampNeg) (xs (x4 + 2).toNatClampNeg) o16 hco16) (cwV 2 hts gv_L_77 rfl rfl rfl (by decide +kernel) ⟨Nat.le_of_ble_eq_true rfl, Nat.le_of_ble_eq_true rfl⟩) (mW_pre (A := fun z => s.heap.size ≤ z) hKc (hP.sub [8, 9, 10, 11, 12, 13, 14, 15] rfl) (hD.sub [8, 9, 10, 11, 12, 13, 14, 15] (by decide) rfl)) rfl rfl hl.1 rfl (lv_room (Nat.le_of_ble_eq_true rfl)) d_L_law_458 ⟨lw_cle (by omega), lw_sle (by omega)⟩) hP hD hS hA (fun H locs hP hD hS => ?_)
                  refine lv_istore (lv' := [(6, .int o16.1), (5, .int o15.1), (0, .ref b), (1, .ref (ad 0)), (2, .ref (am 0)), (3, .ref q), (4, .int x4)]) hx hb d_L_law_461 hl (by decide) rfl (fun ls hl => ?_)
                  refine lv_aload_n hx hb d_L_law_463 rfl (lv_at hl 4 rfl) ?_
                  obtain ⟨o17, hco17, hf⟩ := fg_ob_some hf
                  refine fgLm_i (va_runV (As := []) (rest := []) ⟨hx, hb, hml, hown, hts⟩ (c_M_thrown l dC dI cI cZ am _ o16.2.1 mn mB mE mC mO o16.2.2 mL mV  o17 hco17) (cwV 0 hts gv_L_60 rfl rfl rfl (by decide +kernel) ⟨Nat.le_of_ble_eq_true rfl, Nat.le_of_ble_eq_true rfl⟩) (mW_pre (A := fun z => s.heap.size ≤ z) hKc (hP.sub [8, 9, 10, 11, 12, 13, 14, 15] rfl) (hD.sub [8, 9, 10, 11, 12, 13, 14, 15] (by decide) rfl)) rfl rfl hl.1 rfl (lv_room (Nat.le_of_ble_eq_true rfl)) d_L_law_464 ⟨lw_cle (by omega), lw_sle (by omega)⟩) hP hD hS hA (fun H locs hP hD hS => ?_)
                  refine lv_iload hx hb d_L_law_467 (lv_at hl 1 rfl) ?_
                  refine lv_icmp_eq (tgt := 474) hx hb d_L_law_469 (by decide) (fun hc => ?_) (fun hc => ?_)
                  · rw [if_pos hc] at hf
                    refine lv_iload hx hb d_L_law_474 (lv_at hl 1 rfl) ?_
                    refine lv_if_ne (tgt := 491) hx hb d_L_law_476 (by decide) (fun hc => ?_) (fun hc => ?_)
                    · rw [if_neg hc] at hf
                      refine lv_goto (tgt := 779) hx hb d_L_law_491 (by decide) ?_
                      refine lv_iinc (v := x4 + 4) (lv' := [(4, .int (x4 + 4)), (6, .int o16.1), (5, .int o15.1), (0, .ref b), (1, .ref (ad 0)), (2, .ref (am 0)), (3, .ref q)]) hx hb d_L_law_779 hl (k := 6) rfl rfl (by decide) rfl (fun ls hl => ?_)
                      refine lv_goto (tgt := 23) hx hb d_L_law_782 (by decide) ?_
                      refine W.widen (k := 17 + (it + 1)) (n := 1030 + 6 * (it + 1)) (by omega) (by omega) ?_
                      exact ih (it + 1) (x4 + 4) gB gE gC gO gn gF gL gV o16.2.1 mn mB mE mC mO o16.2.2 mL mV o15.2 hf (by rw [hx4]; exact lw_next it) (by omega) (by omega) _ _ _ hP hD hS (lv_sub hl [3, 4, 5, 6, 0] rfl)
                    · rw [if_pos hc] at hf
                      refine lv_aload_n hx hb d_L_law_479 rfl (lv_at hl 5 rfl) ?_
                      refine lv_iconst (v := 0) hx hb d_L_law_480 (by decide) ?_
                      refine va_lald (i := 0) hx hb hK hP 16 2 rfl rfl (ix_in (i := 0) (n := 1) (by decide)) d_L_law_481 ?_
                      refine lv_iload hx hb d_L_law_482 (lv_at hl 0 rfl) ?_
                      refine lv_i2l hx hb d_L_law_484 rfl ?_
                      refine W.lcmp hx hb d_L_law_485 ?_
                      refine lv_if_eq (tgt := 491) hx hb d_L_law_486 (by decide) (fun hc => ?_) (fun hc => ?_)
                      · rw [if_pos (show (lg_cmp (o15.2 0) o16.1.toInt64) = 0 from hc)] at hf
                        refine lv_goto (tgt := 779) hx hb d_L_law_491 (by decide) ?_
                        refine lv_iinc (v := x4 + 4) (lv' := [(4, .int (x4 + 4)), (6, .int o16.1), (5, .int o15.1), (0, .ref b), (1, .ref (ad 0)), (2, .ref (am 0)), (3, .ref q)]) hx hb d_L_law_779 hl (k := 6) rfl rfl (by decide) rfl (fun ls hl => ?_)
                        refine lv_goto (tgt := 23) hx hb d_L_law_782 (by decide) ?_
                        refine W.widen (k := 17 + (it + 1)) (n := 1030 + 6 * (it + 1)) (by omega) (by omega) ?_
                        exact ih (it + 1) (x4 + 4) gB gE gC gO gn gF gL gV o16.2.1 mn mB mE mC mO o16.2.2 mL mV o15.2 hf (by rw [hx4]; exact lw_next it) (by omega) (by omega) _ _ _ hP hD hS (lv_sub hl [3, 4, 5, 6, 0] rfl)
                      · rw [if_neg (show ¬ (lg_cmp (o15.2 0) o16.1.toInt64) = 0 from hc)] at hf
                        refine lv_iconst (v := 0) hx hb d_L_law_489 (by decide) ?_
                        cases hf
                  · rw [if_neg hc] at hf
                    refine lv_iconst (v := 0) hx hb d_L_law_472 (by decide) ?_
                    cases hf
                · rw [if_neg h5] at hf
                  by_cases h6 : v = 6
                  · rw [if_pos h6] at hf
                    subst h6
                    refine lv_tableIn (tgt := 494) hx hb d_L_law_39 (by decide) (by decide) rfl (by decide) ?_
                    refine lv_aload_n hx hb d_L_law_494 rfl (lv_at hl 1 rfl) ?_
                    refine lv_aload_n hx hb d_L_law_495 rfl (lv_at hl 0 rfl) ?_
                    refine lv_iload hx hb d_L_law_496 (lv_at hl 4 rfl) ?_
                    refine lv_iconst (v := 1) hx hb d_L_law_498 (by decide) ?_
                    refine lv_iadd hx hb d_L_law_499 ?_
                    obtain ⟨hi, hf⟩ := fg_og_some hf
                    refine va_sld hx hb hXs hbl hbA hS (ix_in hi) d_L_law_500 ?_
                    refine lv_aload_n hx hb d_L_law_501 rfl (lv_at hl 3 rfl) ?_
                    obtain ⟨o12, hco12, hf⟩ := fg_ob_some hf
                    refine fgL_h (vx_runSW (As := [.ref (ad 0), .int (xs (x4 + 1).toNatClampNeg), .ref q]) (rest := []) ⟨hx, hb, hml, hown, hts⟩ (c_L_circle l hst f dC dI cI cZ cJ ad q _ gB gE gC gO gn gF gL gV w (xs (x4 + 1).toNatClampNeg) o12 hco12) (vx_cwSW 3 hts gw_L_78 rfl rfl rfl (by decide +kernel) ⟨Nat.le_of_ble_eq_true rfl, Nat.le_of_ble_eq_true rfl⟩) (hW_pre (A1 := fun z => s.heap.size ≤ z) hK (hP.sub [0, 1, 2, 3, 4, 5, 6, 7, 16] rfl) (hD.sub [0, 1, 2, 3, 4, 5, 6, 7, 16] (by decide) rfl) hS hX hC (va_free hD hS hA [0, 1, 2, 3, 4, 5, 6, 7, 16] rfl)) rfl rfl hl.1 rfl (lv_room (Nat.le_of_ble_eq_true rfl)) d_L_law_502 ⟨lw_cle (by omega), lw_sle (by omega)⟩) hP hD hS hA (fun H locs hP hD hS => ?_)
                    refine lv_istore (lv' := [(5, .int o12.1), (0, .ref b), (1, .ref (ad 0)), (2, .ref (am 0)), (3, .ref q), (4, .int x4)]) hx hb d_L_law_505 hl (by decide) rfl (fun ls hl => ?_)
                    refine lv_aload_n hx hb d_L_law_507 rfl (lv_at hl 3 rfl) ?_
                    refine lv_aload_n hx hb d_L_law_508 rfl (lv_at hl 1 rfl) ?_
                    refine lv_iload hx hb d_L_law_509 (lv_at hl 5 rfl) ?_
                    refine lv_iconst (v := 1) hx hb d_L_law_511 (by decide) ?_
                    refine lv_iadd hx hb d_L_law_512 ?_
                    obtain ⟨hi, hf⟩ := fg_og_some hf
                    refine va_sld hx hb hXs hbl hbA hS (ix_in hi) d_L_law_513 ?_
                    obtain ⟨o13, hco13, hf⟩ := fg_ob_some hf
                    refine fgLm_i (va_runV (As := [.int (xs (x4 + 1).toNatClampNeg)]) (rest := []) ⟨hx, hb, hml, hown, hts⟩ (c_M_circle l dC dI cI cZ am _ mt mn mB mE mC mO mF mL mV (xs (x4 + 1).toNatClampNeg) o13 hco13) (cwV 1 hts gv_L_81 rfl rfl rfl (by decide +kernel) ⟨Nat.le_of_ble_eq_true rfl, Nat.le_of_ble_eq_true rfl⟩) (mW_pre (A := fun z => s.heap.size ≤ z) hKc (hP.sub [8, 9, 10, 11, 12, 13, 14, 15] rfl) (hD.sub [8, 9, 10, 11, 12, 13, 14, 15] (by decide) rfl)) rfl rfl hl.1 rfl (lv_room (Nat.le_of_ble_eq_true rfl)) d_L_law_514 ⟨lw_cle (by omega), lw_sle (by omega)⟩) hP hD hS hA (fun H locs hP hD hS => ?_)
                    refine lv_istore (lv' := [(6, .int o13.1), (5, .int o12.1), (0, .ref b), (1, .ref (ad 0)), (2, .ref (am 0)), (3, .ref q), (4, .int x4)]) hx hb d_L_law_517 hl (by decide) rfl (fun ls hl => ?_)
                    refine lv_aload_n hx hb d_L_law_519 rfl (lv_at hl 4 rfl) ?_
                    obtain ⟨o14, hco14, hf⟩ := fg_ob_some hf
                    refine fgLm_i (va_runV (As := []) (rest := []) ⟨hx, hb, hml, hown, hts⟩ (c_M_thrown l dC dI cI cZ am _ o13.2.1 mn mB mE mC mO o13.2.2 mL mV  o14 hco14) (cwV 0 hts gv_L_60 rfl rfl rfl (by decide +kernel) ⟨Nat.le_of_ble_eq_true rfl, Nat.le_of_ble_eq_true rfl⟩) (mW_pre (A := fun z => s.heap.size ≤ z) hKc (hP.sub [8, 9, 10, 11, 12, 13, 14, 15] rfl) (hD.sub [8, 9, 10, 11, 12, 13, 14, 15] (by decide) rfl)) rfl rfl hl.1 rfl (lv_room (Nat.le_of_ble_eq_true rfl)) d_L_law_520 ⟨lw_cle (by omega), lw_sle (by omega)⟩) hP hD hS hA (fun H locs hP hD hS => ?_)
                    refine lv_iload hx hb d_L_law_523 (lv_at hl 1 rfl) ?_
                    refine lv_icmp_eq (tgt := 530) hx hb d_L_law_525 (by decide) (fun hc => ?_) (fun hc => ?_)
                    · rw [if_pos hc] at hf
                      refine lv_iload hx hb d_L_law_530 (lv_at hl 1 rfl) ?_
                      refine lv_if_ne (tgt := 547) hx hb d_L_law_532 (by decide) (fun hc => ?_) (fun hc => ?_)
                      · rw [if_neg hc] at hf
                        refine lv_goto (tgt := 779) hx hb d_L_law_547 (by decide) ?_
                        refine lv_iinc (v := x4 + 4) (lv' := [(4, .int (x4 + 4)), (6, .int o13.1), (5, .int o12.1), (0, .ref b), (1, .ref (ad 0)), (2, .ref (am 0)), (3, .ref q)]) hx hb d_L_law_779 hl (k := 6) rfl rfl (by decide) rfl (fun ls hl => ?_)
                        refine lv_goto (tgt := 23) hx hb d_L_law_782 (by decide) ?_
                        refine W.widen (k := 17 + (it + 1)) (n := 1030 + 6 * (it + 1)) (by omega) (by omega) ?_
                        exact ih (it + 1) (x4 + 4) gB gE gC gO gn gF gL gV o13.2.1 mn mB mE mC mO o13.2.2 mL mV o12.2 hf (by rw [hx4]; exact lw_next it) (by omega) (by omega) _ _ _ hP hD hS (lv_sub hl [3, 4, 5, 6, 0] rfl)
                      · rw [if_pos hc] at hf
                        refine lv_aload_n hx hb d_L_law_535 rfl (lv_at hl 5 rfl) ?_
                        refine lv_iconst (v := 0) hx hb d_L_law_536 (by decide) ?_
                        refine va_lald (i := 0) hx hb hK hP 16 2 rfl rfl (ix_in (i := 0) (n := 1) (by decide)) d_L_law_537 ?_
                        refine lv_iload hx hb d_L_law_538 (lv_at hl 0 rfl) ?_
                        refine lv_i2l hx hb d_L_law_540 rfl ?_
                        refine W.lcmp hx hb d_L_law_541 ?_
                        refine lv_if_eq (tgt := 547) hx hb d_L_law_542 (by decide) (fun hc => ?_) (fun hc => ?_)
                        · rw [if_pos (show (lg_cmp (o12.2 0) o13.1.toInt64) = 0 from hc)] at hf
                          refine lv_goto (tgt := 779) hx hb d_L_law_547 (by decide) ?_
                          refine lv_iinc (v := x4 + 4) (lv' := [(4, .int (x4 + 4)), (6, .int o13.1), (5, .int o12.1), (0, .ref b), (1, .ref (ad 0)), (2, .ref (am 0)), (3, .ref q)]) hx hb d_L_law_779 hl (k := 6) rfl rfl (by decide) rfl (fun ls hl => ?_)
                          refine lv_goto (tgt := 23) hx hb d_L_law_782 (by decide) ?_
                          refine W.widen (k := 17 + (it + 1)) (n := 1030 + 6 * (it + 1)) (by omega) (by omega) ?_
                          exact ih (it + 1) (x4 + 4) gB gE gC gO gn gF gL gV o13.2.1 mn mB mE mC mO o13.2.2 mL mV o12.2 hf (by rw [hx4]; exact lw_next it) (by omega) (by omega) _ _ _ hP hD hS (lv_sub hl [3, 4, 5, 6, 0] rfl)
                        · rw [if_neg (show ¬ (lg_cmp (o12.2 0) o13.1.toInt64) = 0 from hc)] at hf
                          refine lv_iconst (v := 0) hx hb d_L_law_545 (by decide) ?_
                          cases hf
                    · rw [if_neg hc] at hf
                      refine lv_iconst (v := 0) hx hb d_L_law_528 (by decide) ?_
                      cases hf
                  · rw [if_neg h6] at hf
                    by_cases h7 : v = 7
                    · rw [if_pos h7] at hf
                      subst h7
                      refine lv_tableIn (tgt := 550) hx hb d_L_law_39 (by decide) (by decide) rfl (by decide) ?_
                      refine lv_aload_n hx hb d_L_law_550 rfl (lv_at hl 1 rfl) ?_
                      obtain ⟨o10, hco10, hf⟩ := fg_ob_some hf
                      refine fgLg_i (va_runV (As := []) (rest := []) ⟨hx, hb, hml, hown, hts⟩ (c_G_circles l dC dI cI cZ ad _ gB gE gC gO gn gF gL gV  o10 hco10) (cwV 0 hts gv_L_82 rfl rfl rfl (by decide +kernel) ⟨Nat.le_of_ble_eq_true rfl, Nat.le_of_ble_eq_true rfl⟩) (gW_pre (A := fun z => s.heap.size ≤ z) hKc (hP.sub [0, 1, 2, 3, 4, 5, 6, 7] rfl) (hD.sub [0, 1, 2, 3, 4, 5, 6, 7] (by decide) rfl)) rfl rfl hl.1 rfl (lv_room (Nat.le_of_ble_eq_true rfl)) d_L_law_551 ⟨lw_cle (by omega), lw_sle (by omega)⟩) hP hD hS hA (fun H locs hP hD hS => ?_)
                      refine lv_aload_n hx hb d_L_law_554 rfl (lv_at hl 2 rfl) ?_
                      obtain ⟨o11, hco11, hf⟩ := fg_ob_some hf
                      refine fgLm_i (va_runV (As := []) (rest := [.int o10]) ⟨hx, hb, hml, hown, hts⟩ (c_M_circles l dC dI cI cZ am _ mt mn mB mE mC mO mF mL mV  o11 hco11) (cwV 0 hts gv_L_85 rfl rfl rfl (by decide +kernel) ⟨Nat.le_of_ble_eq_true rfl, Nat.le_of_ble_eq_true rfl⟩) (mW_pre (A := fun z => s.heap.size ≤ z) hKc (hP.sub [8, 9, 10, 11, 12, 13, 14, 15] rfl) (hD.sub [8, 9, 10, 11, 12, 13, 14, 15] (by decide) rfl)) rfl rfl hl.1 rfl (lv_room (Nat.le_of_ble_eq_true rfl)) d_L_law_555 ⟨lw_cle (by omega), lw_sle (by omega)⟩) hP hD hS hA (fun H locs hP hD hS => ?_)
                      refine lv_icmp_eq (tgt := 779) hx hb d_L_law_558 (by decide) (fun hc => ?_) (fun hc => ?_)
                      · rw [if_pos hc] at hf
                        refine lv_iinc (v := x4 + 4) (lv' := [(4, .int (x4 + 4)), (0, .ref b), (1, .ref (ad 0)), (2, .ref (am 0)), (3, .ref q)]) hx hb d_L_law_779 hl (k := 4) rfl rfl (by decide) rfl (fun ls hl => ?_)
                        refine lv_goto (tgt := 23) hx hb d_L_law_782 (by decide) ?_
                        refine W.widen (k := 17 + (it + 1)) (n := 1030 + 6 * (it + 1)) (by omega) (by omega) ?_
                        exact ih (it + 1) (x4 + 4) gB gE gC gO gn gF gL gV o11.2.1 mn mB mE mC mO o11.2.2 mL mV w hf (by rw [hx4]; exact lw_next it) (by omega) (by omega) _ _ _ hP hD hS (lv_sub hl [1, 2, 3, 4, 0] rfl)
                      · rw [if_neg hc] at hf
                        refine lv_iconst (v := 0) hx hb d_L_law_561 (by decide) ?_
                        cases hf
                    · rw [if_neg h7] at hf
                      by_cases h8 : v = 8
                      · rw [if_pos h8] at hf
                        subst h8
                        refine lv_tableIn (tgt := 563) hx hb d_L_law_39 (by decide) (by decide) rfl (by decide) ?_
                        refine lv_aload_n hx hb d_L_law_563 rfl (lv_at hl 1 rfl) ?_
                        refine lv_aload_n hx hb d_L_law_564 rfl (lv_at hl 0 rfl) ?_
                        refine lv_iload hx hb d_L_law_565 (lv_at hl 4 rfl) ?_
                        refine lv_iconst (v := 1) hx hb d_L_law_567 (by decide) ?_
                        refine lv_iadd hx hb d_L_law_568 ?_
                        obtain ⟨hi, hf⟩ := fg_og_some hf
                        refine va_sld hx hb hXs hbl hbA hS (ix_in hi) d_L_law_569 ?_
                        refine lv_aload_n hx hb d_L_law_570 rfl (lv_at hl 0 rfl) ?_
                        refine lv_iload hx hb d_L_law_571 (lv_at hl 4 rfl) ?_
                        refine lv_iconst (v := 2) hx hb d_L_law_573 (by decide) ?_
                        refine lv_iadd hx hb d_L_law_574 ?_
                        obtain ⟨hi, hf⟩ := fg_og_some hf
                        refine va_sld hx hb hXs hbl hbA hS (ix_in hi) d_L_law_575 ?_
                        refine lv_aload_n hx hb d_L_law_576 rfl (lv_at hl 3 rfl) ?_
                        obtain ⟨o7, hco7, hf⟩ := fg_ob_some hf
                        refine fgL_h (vx_runSW (As := [.ref (ad 0), .int (xs (x4 + 1).toNatClampNeg), .int (xs (x4 + 2).toNatClampNeg), .ref q]) (rest := []) ⟨hx, hb, hml, hown, hts⟩ (c_L_cut l hst f dC dI cI cZ cJ ad q _ gB gE gC gO gn gF gL gV w (xs (x4 + 1).toNatClampNeg) (xs (x4 + 2).toNatClampNeg) o7 hco7) (vx_cwSW 4 hts gw_L_86 rfl rfl rfl (by decide +kernel) ⟨Nat.le_of_ble_eq_true rfl, Nat.le_of_ble_eq_true rfl⟩) (hW_pre (A1 := fun z => s.heap.size ≤ z) hK (hP.sub [0, 1, 2, 3, 4, 5, 6, 7, 16] rfl) (hD.sub [0, 1, 2, 3, 4, 5, 6, 7, 16] (by decide) rfl) hS hX hC (va_free hD hS hA [0, 1, 2, 3, 4, 5, 6, 7, 16] rfl)) rfl rfl hl.1 rfl (lv_room (Nat.le_of_ble_eq_true rfl)) d_L_law_577 ⟨lw_cle (by omega), lw_sle (by omega)⟩) hP hD hS hA (fun H locs hP hD hS => ?_)
                        refine lv_istore (lv' := [(5, .int o7.1), (0, .ref b), (1, .ref (ad 0)), (2, .ref (am 0)), (3, .ref q), (4, .int x4)]) hx hb d_L_law_580 hl (by decide) rfl (fun ls hl => ?_)
                        refine lv_aload_n hx hb d_L_law_582 rfl (lv_at hl 3 rfl) ?_
                        refine lv_aload_n hx hb d_L_law_583 rfl (lv_at hl 1 rfl) ?_
                        refine lv_iload hx hb d_L_law_584 (lv_at hl 5 rfl) ?_
                        refine lv_iconst (v := 1) hx hb d_L_law_586 (by decide) ?_
                        refine lv_iadd hx hb d_L_law_587 ?_
                        obtain ⟨hi, hf⟩ := fg_og_some hf
                        refine va_sld hx hb hXs hbl hbA hS (ix_in hi) d_L_law_588 ?_
                        refine lv_aload_n hx hb d_L_law_589 rfl (lv_at hl 1 rfl) ?_
                        refine lv_iload hx hb d_L_law_590 (lv_at hl 5 rfl) ?_
                        refine lv_iconst (v := 2) hx hb d_L_law_592 (by decide) ?_
                        refine lv_iadd hx hb d_L_law_593 ?_
                        obtain ⟨hi, hf⟩ := fg_og_some hf
                        refine va_sld hx hb hXs hbl hbA hS (ix_in hi) d_L_law_594 ?_
                        obtain ⟨o8, hco8, hf⟩ := fg_ob_some hf
                        refine fgLm_i (va_runV (As := [.int (xs (x4 + 1).toNatClampNeg), .int (xs (x4 + 2).toNatClampNeg)]) (rest := []) ⟨hx, hb, hml, hown, hts⟩ (c_M_cut l dC dI cI cZ am _ mt mn mB mE mC mO mF mL mV (xs (x4 + 1).toNatClampNeg) (xs (x4 + 2).toNatClampNeg) o8 hco8) (cwV 2 hts gv_L_88 rfl rfl rfl (by decide +kernel) ⟨Nat.le_of_ble_eq_true rfl, Nat.le_of_ble_eq_true rfl⟩) (mW_pre (A := fun z => s.heap.size ≤ z) hKc (hP.sub [8, 9, 10, 11, 12, 13, 14, 15] rfl) (hD.sub [8, 9, 10, 11, 12, 13, 14, 15] (by decide) rfl)) rfl rfl hl.1 rfl (lv_room (Nat.le_of_ble_eq_true rfl)) d_L_law_595 ⟨lw_cle (by omega), lw_sle (by omega)⟩) hP hD hS hA (fun H locs hP hD hS => ?_)
                        refine lv_istore (lv' := [(6, .int o8.1), (5, .int o7.1), (0, .ref b), (1, .ref (ad 0)), (2, .ref (am 0)), (3, .ref q), (4, .int x4)]) hx hb d_L_law_598 hl (by decide) rfl (fun ls hl => ?_)
                        refine lv_aload_n hx hb d_L_law_600 rfl (lv_at hl 4 rfl) ?_
                        obtain ⟨o9, hco9, hf⟩ := fg_ob_some hf
                        refine fgLm_i (va_runV (As := []) (rest := []) ⟨hx, hb, hml, hown, hts⟩ (c_M_thrown l dC dI cI cZ am _ o8.2.1 mn mB mE mC mO mF o8.2.2.1 o8.2.2.2  o9 hco9) (cwV 0 hts gv_L_60 rfl rfl rfl (by decide +kernel) ⟨Nat.le_of_ble_eq_true rfl, Nat.le_of_ble_eq_true rfl⟩) (mW_pre (A := fun z => s.heap.size ≤ z) hKc (hP.sub [8, 9, 10, 11, 12, 13, 14, 15] rfl) (hD.sub [8, 9, 10, 11, 12, 13, 14, 15] (by decide) rfl)) rfl rfl hl.1 rfl (lv_room (Nat.le_of_ble_eq_true rfl)) d_L_law_601 ⟨lw_cle (by omega), lw_sle (by omega)⟩) hP hD hS hA (fun H locs hP hD hS => ?_)
                        refine lv_iload hx hb d_L_law_604 (lv_at hl 1 rfl) ?_
                        refine lv_icmp_eq (tgt := 611) hx hb d_L_law_606 (by decide) (fun hc => ?_) (fun hc => ?_)
                        · rw [if_pos hc] at hf
                          refine lv_iload hx hb d_L_law_611 (lv_at hl 1 rfl) ?_
                          refine lv_if_ne (tgt := 628) hx hb d_L_law_613 (by decide) (fun hc => ?_) (fun hc => ?_)
                          · rw [if_neg hc] at hf
                            refine lv_goto (tgt := 779) hx hb d_L_law_628 (by decide) ?_
                            refine lv_iinc (v := x4 + 4) (lv' := [(4, .int (x4 + 4)), (6, .int o8.1), (5, .int o7.1), (0, .ref b), (1, .ref (ad 0)), (2, .ref (am 0)), (3, .ref q)]) hx hb d_L_law_779 hl (k := 6) rfl rfl (by decide) rfl (fun ls hl => ?_)
                            refine lv_goto (tgt := 23) hx hb d_L_law_782 (by decide) ?_
                            refine W.widen (k := 17 + (it + 1)) (n := 1030 + 6 * (it + 1)) (by omega) (by omega) ?_
                            exact ih (it + 1) (x4 + 4) gB gE gC gO gn gF o7.2.1 o7.2.2.1 o8.2.1 mn mB mE mC mO mF o8.2.2.1 o8.2.2.2 o7.2.2.2 hf (by rw [hx4]; exact lw_next it) (by omega) (by omega) _ _ _ hP hD hS (lv_sub hl [3, 4, 5, 6, 0] rfl)
                          · rw [if_pos hc] at hf
                            refine lv_aload_n hx hb d_L_law_616 rfl (lv_at hl 5 rfl) ?_
                            refine lv_iconst (v := 0) hx hb d_L_law_617 (by decide) ?_
                            refine va_lald (i := 0) hx hb hK hP 16 2 rfl rfl (ix_in (i := 0) (n := 1) (by decide)) d_L_law_618 ?_
                            refine lv_iload hx hb d_L_law_619 (lv_at hl 0 rfl) ?_
                            refine lv_i2l hx hb d_L_law_621 rfl ?_
                            refine W.lcmp hx hb d_L_law_622 ?_
                            refine lv_if_eq (tgt := 628) hx hb d_L_law_623 (by decide) (fun hc => ?_) (fun hc => ?_)
                            · rw [if_pos (show (lg_cmp (o7.2.2.2 0) o8.1.toInt64) = 0 from hc)] at hf
                              refine lv_goto (tgt := 779) hx hb d_L_law_628 (by decide) ?_
                              refine lv_iinc (v := x4 + 4) (lv' := [(4, .int (x4 + 4)), (6, .int o8.1), (5, .int o7.1), (0, .ref b), (1, .ref (ad 0)), (2, .ref (am 0)), (3, .ref q)]) hx hb d_L_law_779 hl (k := 6) rfl rfl (by decide) rfl (fun ls hl => ?_)
                              refine lv_goto (tgt := 23) hx hb d_L_law_782 (by decide) ?_
                              refine W.widen (k := 17 + (it + 1)) (n := 1030 + 6 * (it + 1)) (by omega) (by omega) ?_
                              exact ih (it + 1) (x4 + 4) gB gE gC gO gn gF o7.2.1 o7.2.2.1 o8.2.1 mn mB mE mC mO mF o8.2.2.1 o8.2.2.2 o7.2.2.2 hf (by rw [hx4]; exact lw_next it) (by omega) (by omega) _ _ _ hP hD hS (lv_sub hl [3, 4, 5, 6, 0] rfl)
                            · rw [if_neg (show ¬ (lg_cmp (o7.2.2.2 0) o8.1.toInt64) = 0 from hc)] at hf
                              refine lv_iconst (v := 0) hx hb d_L_law_626 (by decide) ?_
                              cases hf
                        · rw [if_neg hc] at hf
                          refine lv_iconst (v := 0) hx hb d_L_law_609 (by decide) ?_
                          cases hf
                      · rw [if_neg h8] at hf
                        by_cases h9 : v = 9
                        · rw [if_pos h9] at hf
                          subst h9
                          refine lv_tableIn (tgt := 631) hx hb d_L_law_39 (by decide) (by decide) rfl (by decide) ?_
                          refine lv_aload_n hx hb d_L_law_631 rfl (lv_at hl 1 rfl) ?_
                          refine lv_aload_n hx hb d_L_law_632 rfl (lv_at hl 0 rfl) ?_
                          refine lv_iload hx hb d_L_law_633 (lv_at hl 4 rfl) ?_
                          refine lv_iconst (v := 1) hx hb d_L_law_635 (by decide) ?_
                          refine lv_iadd hx hb d_L_law_636 ?_
                          obtain ⟨hi, hf⟩ := fg_og_some hf
                          refine va_sld hx hb hXs hbl hbA hS (ix_in hi) d_L_law_637 ?_
                          refine lv_aload_n hx hb d_L_law_638 rfl (lv_at hl 0 rfl) ?_
                          refine lv_iload hx hb d_L_law_639 (lv_at hl 4 rfl) ?_
                          refine lv_iconst (v := 2) hx hb d_L_law_641 (by decide) ?_
                          refine lv_iadd hx hb d_L_law_642 ?_
                          obtain ⟨hi, hf⟩ := fg_og_some hf
                          refine va_sld hx hb hXs hbl hbA hS (ix_in hi) d_L_law_643 ?_
                          refine lv_aload_n hx hb d_L_law_644 rfl (lv_at hl 0 rfl) ?_
                          refine lv_iload hx hb d_L_law_645 (lv_at hl 4 rfl) ?_
                          refine lv_iconst (v := 3) hx hb d_L_law_647 (by decide) ?_
                          refine lv_iadd hx hb d_L_law_648 ?_
                          obtain ⟨hi, hf⟩ := fg_og_some hf
                          refine va_sld hx hb hXs hbl hbA hS (ix_in hi) d_L_law_649 ?_
                          refine lv_aload_n hx hb d_L_law_650 rfl (lv_at hl 3 rfl) ?_
                          obtain ⟨o4, hco4, hf⟩ := fg_ob_some hf
                          refine fgL_h (vx_runSW (As := [.ref (ad 0), .int (xs (x4 + 1).toNatClampNeg), .int (xs (x4 + 2).toNatClampNeg), .int (xs (x4 + 3).toNatClampNeg), .ref q]) (rest := []) ⟨hx, hb, hml, hown, hts⟩ (c_L_cutRule l hst f dC dI cI cZ cJ ad q _ gB gE gC gO gn gF gL gV w (xs (x4 + 1).toNatClampNeg) (xs (x4 + 2).toNatClampNeg) (xs (x4 + 3).toNatClampNeg) o4 hco4) (vx_cwSW 5 hts gw_L_89 rfl rfl rfl (by decide +kernel) ⟨Nat.le_of_ble_eq_true rfl, Nat.le_of_ble_eq_true rfl⟩) (hW_pre (A1 := fun z => s.heap.size ≤ z) hK (hP.sub [0, 1, 2, 3, 4, 5, 6, 7, 16] rfl) (hD.sub [0, 1, 2, 3, 4, 5, 6, 7, 16] (by decide) rfl) hS hX hC (va_free hD hS hA [0, 1, 2, 3, 4, 5, 6, 7, 16] rfl)) rfl rfl hl.1 rfl (lv_room (Nat.le_of_ble_eq_true rfl)) d_L_law_651 ⟨lw_cle (by omega), lw_sle (by omega)⟩) hP hD hS hA (fun H locs hP hD hS => ?_)
                          refine lv_istore (lv' := [(5, .int o4.1), (0, .ref b), (1, .ref (ad 0)), (2, .ref (am 0)), (3, .ref q), (4, .int x4)]) hx hb d_L_law_654 hl (by decide) rfl (fun ls hl => ?_)
                          refine lv_aload_n hx hb d_L_law_656 rfl (lv_at hl 3 rfl) ?_
                          refine lv_aload_n hx hb d_L_law_657 rfl (lv_at hl 1 rfl) ?_
                          refine lv_iload hx hb d_L_law_658 (lv_at hl 5 rfl) ?_
                          refine lv_iconst (v := 1) hx hb d_L_law_660 (by decide) ?_
                          refine lv_iadd hx hb d_L_law_661 ?_
                          obtain ⟨hi, hf⟩ := fg_og_some hf
                          refine va_sld hx hb hXs hbl hbA hS (ix_in hi) d_L_law_662 ?_
                          refine lv_aload_n hx hb d_L_law_663 rfl (lv_at hl 1 rfl) ?_
                          refine lv_iload hx hb d_L_law_664 (lv_at hl 5 rfl) ?_
                          refine lv_iconst (v := 2) hx hb d_L_law_666 (by decide) ?_
                          refine lv_iadd hx hb d_L_law_667 ?_
                          obtain ⟨hi, hf⟩ := fg_og_some hf
                          refine va_sld hx hb hXs hbl hbA hS (ix_in hi) d_L_law_668 ?_
                          refine lv_aload_n hx hb d_L_law_669 rfl (lv_at hl 1 rfl) ?_
                          refine lv_iload hx hb d_L_law_670 (lv_at hl 5 rfl) ?_
                          refine lv_iconst (v := 3) hx hb d_L_law_672 (by decide) ?_
                          refine lv_iadd hx hb d_L_law_673 ?_
                          obtain ⟨hi, hf⟩ := fg_og_some hf
                          refine va_sld hx hb hXs hbl hbA hS (ix_in hi) d_L_law_674 ?_
                          obtain ⟨o5, hco5, hf⟩ := fg_ob_some hf
                          refine fgLm_i (va_runV (As := [.int (xs (x4 + 1).toNatClampNeg), .int (xs (x4 + 2).toNatClampNeg), .int (xs (x4 + 3).toNatClampNeg)]) (rest := []) ⟨hx, hb, hml, hown, hts⟩ (c_M_cutRule l dC dI cI cZ am _ mt mn mB mE mC mO mF mL mV (xs (x4 + 1).toNatClampNeg) (xs (x4 + 2).toNatClampNeg) (xs (x4 + 3).toNatClampNeg) o5 hco5) (cwV 3 hts gv_L_91 rfl rfl rfl (by decide +kernel) ⟨Nat.le_of_ble_eq_true rfl, Nat.le_of_ble_eq_true rfl⟩) (mW_pre (A := fun z => s.heap.size ≤ z) hKc (hP.sub [8, 9, 10, 11, 12, 13, 14, 15] rfl) (hD.sub [8, 9, 10, 11, 12, 13, 14, 15] (by decide) rfl)) rfl rfl hl.1 rfl (lv_room (Nat.le_of_ble_eq_true rfl)) d_L_law_675 ⟨lw_cle (by omega), lw_sle (by omega)⟩) hP hD hS hA (fun H locs hP hD hS => ?_)
                          refine lv_istore (lv' := [(6, .int o5.1), (5, .int o4.1), (0, .ref b), (1, .ref (ad 0)), (2, .ref (am 0)), (3, .ref q), (4, .int x4)]) hx hb d_L_law_678 hl (by decide) rfl (fun ls hl => ?_)
                          refine lv_aload_n hx hb d_L_law_680 rfl (lv_at hl 4 rfl) ?_
                          obtain ⟨o6, hco6, hf⟩ := fg_ob_some hf
                          refine fgLm_i (va_runV (As := []) (rest := []) ⟨hx, hb, hml, hown, hts⟩ (c_M_thrown l dC dI cI cZ am _ o5.2.1 mn mB mE mC mO mF o5.2.2.1 o5.2.2.2  o6 hco6) (cwV 0 hts gv_L_60 rfl rfl rfl (by decide +kernel) ⟨Nat.le_of_ble_eq_true rfl, Nat.le_of_ble_eq_true rfl⟩) (mW_pre (A := fun z => s.heap.size ≤ z) hKc (hP.sub [8, 9, 10, 11, 12, 13, 14, 15] rfl) (hD.sub [8, 9, 10, 11, 12, 13, 14, 15] (by decide) rfl)) rfl rfl hl.1 rfl (lv_room (Nat.le_of_ble_eq_true rfl)) d_L_law_681 ⟨lw_cle (by omega), lw_sle (by omega)⟩) hP hD hS hA (fun H locs hP hD hS => ?_)
                          refine lv_iload hx hb d_L_law_684 (lv_at hl 1 rfl) ?_
                          refine lv_icmp_eq (tgt := 691) hx hb d_L_law_686 (by decide) (fun hc => ?_) (fun hc => ?_)
                          · rw [if_pos hc] at hf
                            refine lv_iload hx hb d_L_law_691 (lv_at hl 1 rfl) ?_
                            refine lv_if_ne (tgt := 708) hx hb d_L_law_693 (by decide) (fun hc => ?_) (fun hc => ?_)
                            · rw [if_neg hc] at hf
                              refine lv_goto (tgt := 779) hx hb d_L_law_708 (by decide) ?_
                              refine lv_iinc (v := x4 + 4) (lv' := [(4, .int (x4 + 4)), (6, .int o5.1), (5, .int o4.1), (0, .ref b), (1, .ref (ad 0)), (2, .ref (am 0)), (3, .ref q)]) hx hb d_L_law_779 hl (k := 6) rfl rfl (by decide) rfl (fun ls hl => ?_)
                              refine lv_goto (tgt := 23) hx hb d_L_law_782 (by decide) ?_
                              refine W.widen (k := 17 + (it + 1)) (n := 1030 + 6 * (it + 1)) (by omega) (by omega) ?_
                              exact ih (it + 1) (x4 + 4) gB gE gC gO gn gF o4.2.1 o4.2.2.1 o5.2.1 mn mB mE mC mO mF o5.2.2.1 o5.2.2.2 o4.2.2.2 hf (by rw [hx4]; exact lw_next it) (by omega) (by omega) _ _ _ hP hD hS (lv_sub hl [3, 4, 5, 6, 0] rfl)
                            · rw [if_pos hc] at hf
                              refine lv_aload_n hx hb d_L_law_696 rfl (lv_at hl 5 rfl) ?_
                              refine lv_iconst (v := 0) hx hb d_L_law_697 (by decide) ?_
                              refine va_lald (i := 0) hx hb hK hP 16 2 rfl rfl (ix_in (i := 0) (n := 1) (by decide)) d_L_law_698 ?_
                              refine lv_iload hx hb d_L_law_699 (lv_at hl 0 rfl) ?_
                              refine lv_i2l hx hb d_L_law_701 rfl ?_
                              refine W.lcmp hx hb d_L_law_702 ?_
                              refine lv_if_eq (tgt := 708) hx hb d_L_law_703 (by decide) (fun hc => ?_) (fun hc => ?_)
                              · rw [if_pos (show (lg_cmp (o4.2.2.2 0) o5.1.toInt64) = 0 from hc)] at hf
                                refine lv_goto (tgt := 779) hx hb d_L_law_708 (by decide) ?_
                                refine lv_iinc (v := x4 + 4) (lv' := [(4, .int (x4 + 4)), (6, .int o5.1), (5, .int o4.1), (0, .ref b), (1, .ref (ad 0)), (2, .ref (am 0)), (3, .ref q)]) hx hb d_L_law_779 hl (k := 6) rfl rfl (by decide) rfl (fun ls hl => ?_)
                                refine lv_goto (tgt := 23) hx hb d_L_law_782 (by decide) ?_
                                refine W.widen (k := 17 + (it + 1)) (n := 1030 + 6 * (it + 1)) (by omega) (by omega) ?_
                                exact ih (it + 1) (x4 + 4) gB gE gC gO gn gF o4.2.1 o4.2.2.1 o5.2.1 mn mB mE mC mO mF o5.2.2.1 o5.2.2.2 o4.2.2.2 hf (by rw [hx4]; exact lw_next it) (by omega) (by omega) _ _ _ hP hD hS (lv_sub hl [3, 4, 5, 6, 0] rfl)
                              · rw [if_neg (show ¬ (lg_cmp (o4.2.2.2 0) o5.1.toInt64) = 0 from hc)] at hf
                                refine lv_iconst (v := 0) hx hb d_L_law_706 (by decide) ?_
                                cases hf
                          · rw [if_neg hc] at hf
                            refine lv_iconst (v := 0) hx hb d_L_law_689 (by decide) ?_
                            cases hf
                        · rw [if_neg h9] at hf
                          by_cases h10 : v = 10
                          · rw [if_pos h10] at hf
                            subst h10
                            refine lv_tableIn (tgt := 711) hx hb d_L_law_39 (by decide) (by decide) rfl (by decide) ?_
                            refine lv_aload_n hx hb d_L_law_711 rfl (lv_at hl 1 rfl) ?_
                            refine lv_aload_n hx hb d_L_law_712 rfl (lv_at hl 0 rfl) ?_
                            refine lv_iload hx hb d_L_law_713 (lv_at hl 4 rfl) ?_
                            refine lv_iconst (v := 1) hx hb d_L_law_715 (by decide) ?_
                            refine lv_iadd hx hb d_L_law_716 ?_
                            obtain ⟨hi, hf⟩ := fg_og_some hf
                            refine va_sld hx hb hXs hbl hbA hS (ix_in hi) d_L_law_717 ?_
                            refine lv_aload_n hx hb d_L_law_718 rfl (lv_at hl 0 rfl) ?_
                            refine lv_iload hx hb d_L_law_719 (lv_at hl 4 rfl) ?_
                            refine lv_iconst (v := 2) hx hb d_L_law_721 (by decide) ?_
                            refine lv_iadd hx hb d_L_law_722 ?_
                            obtain ⟨hi, hf⟩ := fg_og_some hf
                            refine va_sld hx hb hXs hbl hbA hS (ix_in hi) d_L_law_723 ?_
                            refine lv_aload_n hx hb d_L_law_724 rfl (lv_at hl 3 rfl) ?_
                            obtain ⟨o1, hco1, hf⟩ := fg_ob_some hf
                            refine fgL_h (vx_runSW (As := [.ref (ad 0), .int (xs (x4 + 1).toNatClampNeg), .int (xs (x4 + 2).toNatClampNeg), .ref q]) (rest := []) ⟨hx, hb, hml, hown, hts⟩ (c_L_left l hst f dC dI cI cZ cJ ad q _ gB gE gC gO gn gF gL gV w (xs (x4 + 1).toNatClampNeg) (xs (x4 + 2).toNatClampNeg) o1 hco1) (vx_cwSW 4 hts gw_L_92 rfl rfl rfl (by decide +kernel) ⟨Nat.le_of_ble_eq_true rfl, Nat.le_of_ble_eq_true rfl⟩) (hW_pre (A1 := fun z => s.heap.size ≤ z) hK (hP.sub [0, 1, 2, 3, 4, 5, 6, 7, 16] rfl) (hD.sub [0, 1, 2, 3, 4, 5, 6, 7, 16] (by decide) rfl) hS hX hC (va_free hD hS hA [0, 1, 2, 3, 4, 5, 6, 7, 16] rfl)) rfl rfl hl.1 rfl (lv_room (Nat.le_of_ble_eq_true rfl)) d_L_law_725 ⟨lw_cle (by omega), lw_sle (by omega)⟩) hP hD hS hA (fun H locs hP hD hS => ?_)
                            refine lv_istore (lv' := [(5, .int o1.1), (0, .ref b), (1, .ref (ad 0)), (2, .ref (am 0)), (3, .ref q), (4, .int x4)]) hx hb d_L_law_728 hl (by decide) rfl (fun ls hl => ?_)
                            refine lv_aload_n hx hb d_L_law_730 rfl (lv_at hl 3 rfl) ?_
                            refine lv_aload_n hx hb d_L_law_731 rfl (lv_at hl 1 rfl) ?_
                            refine lv_iload hx hb d_L_law_732 (lv_at hl 5 rfl) ?_
                            refine lv_iconst (v := 1) hx hb d_L_law_734 (by decide) ?_
                            refine lv_iadd hx hb d_L_law_735 ?_
                            obtain ⟨hi, hf⟩ := fg_og_some hf
                            refine va_sld hx hb hXs hbl hbA hS (ix_in hi) d_L_law_736 ?_
                            refine lv_aload_n hx hb d_L_law_737 rfl (lv_at hl 1 rfl) ?_
                            refine lv_iload hx hb d_L_law_738 (lv_at hl 5 rfl) ?_
                            refine lv_iconst (v := 2) hx hb d_L_law_740 (by decide) ?_
                            refine lv_iadd hx hb d_L_law_741 ?_
                            obtain ⟨hi, hf⟩ := fg_og_some hf
                            refine va_sld hx hb hXs hbl hbA hS (ix_in hi) d_L_law_742 ?_
                            obtain ⟨o2, hco2, hf⟩ := fg_ob_some hf
                            refine fgLm_i (va_runV (As := [.int (xs (x4 + 1).toNatClampNeg), .int (xs (x4 + 2).toNatClampNeg)]) (rest := []) ⟨hx, hb, hml, hown, hts⟩ (c_M_left l dC dI cI cZ am _ mt mn mB mE mC mO mF mL mV (xs (x4 + 1).toNatClampNeg) (xs (x4 + 2).toNatClampNeg) o2 hco2) (cwV 2 hts gv_L_94 rfl rfl rfl (by decide +kernel) ⟨Nat.le_of_ble_eq_true rfl, Nat.le_of_ble_eq_true rfl⟩) (mW_pre (A := fun z => s.heap.size ≤ z) hKc (hP.sub [8, 9, 10, 11, 12, 13, 14, 15] rfl) (hD.sub [8, 9, 10, 11, 12, 13, 14, 15] (by decide) rfl)) rfl rfl hl.1 rfl (lv_room (Nat.le_of_ble_eq_true rfl)) d_L_law_743 ⟨lw_cle (by omega), lw_sle (by omega)⟩) hP hD hS hA (fun H locs hP hD hS => ?_)
                            refine lv_istore (lv' := [(6, .int o2.1), (5, .int o1.1), (0, .ref b), (1, .ref (ad 0)), (2, .ref (am 0)), (3, .ref q), (4, .int x4)]) hx hb d_L_law_746 hl (by decide) rfl (fun ls hl => ?_)
                            refine lv_aload_n hx hb d_L_law_748 rfl (lv_at hl 4 rfl) ?_
                            obtain ⟨o3, hco3, hf⟩ := fg_ob_some hf
                            refine fgLm_i (va_runV (As := []) (rest := []) ⟨hx, hb, hml, hown, hts⟩ (c_M_thrown l dC dI cI cZ am _ o2.2.1 mn mB mE mC mO mF o2.2.2.1 o2.2.2.2  o3 hco3) (cwV 0 hts gv_L_60 rfl rfl rfl (by decide +kernel) ⟨Nat.le_of_ble_eq_true rfl, Nat.le_of_ble_eq_true rfl⟩) (mW_pre (A := fun z => s.heap.size ≤ z) hKc (hP.sub [8, 9, 10, 11, 12, 13, 14, 15] rfl) (hD.sub [8, 9, 10, 11, 12, 13, 14, 15] (by decide) rfl)) rfl rfl hl.1 rfl (lv_room (Nat.le_of_ble_eq_true rfl)) d_L_law_749 ⟨lw_cle (by omega), lw_sle (by omega)⟩) hP hD hS hA (fun H locs hP hD hS => ?_)
                            refine lv_iload hx hb d_L_law_752 (lv_at hl 1 rfl) ?_
                            refine lv_icmp_eq (tgt := 759) hx hb d_L_law_754 (by decide) (fun hc => ?_) (fun hc => ?_)
                            · rw [if_pos hc] at hf
                              refine lv_iload hx hb d_L_law_759 (lv_at hl 1 rfl) ?_
                              refine lv_if_ne (tgt := 776) hx hb d_L_law_761 (by decide) (fun hc => ?_) (fun hc => ?_)
                              · rw [if_neg hc] at hf
                                refine lv_goto (tgt := 779) hx hb d_L_law_776 (by decide) ?_
                                refine lv_iinc (v := x4 + 4) (lv' := [(4, .int (x4 + 4)), (6, .int o2.1), (5, .int o1.1), (0, .ref b), (1, .ref (ad 0)), (2, .ref (am 0)), (3, .ref q)]) hx hb d_L_law_779 hl (k := 6) rfl rfl (by decide) rfl (fun ls hl => ?_)
                                refine lv_goto (tgt := 23) hx hb d_L_law_782 (by decide) ?_
                                refine W.widen (k := 17 + (it + 1)) (n := 1030 + 6 * (it + 1)) (by omega) (by omega) ?_
                                exact ih (it + 1) (x4 + 4) gB gE gC gO gn gF o1.2.1 o1.2.2.1 o2.2.1 mn mB mE mC mO mF o2.2.2.1 o2.2.2.2 o1.2.2.2 hf (by rw [hx4]; exact lw_next it) (by omega) (by omega) _ _ _ hP hD hS (lv_sub hl [3, 4, 5, 6, 0] rfl)
                              · rw [if_pos hc] at hf
                                refine lv_aload_n hx hb d_L_law_764 rfl (lv_at hl 5 rfl) ?_
                                refine lv_iconst (v := 0) hx hb d_L_law_765 (by decide) ?_
                                refine va_lald (i := 0) hx hb hK hP 16 2 rfl rfl (ix_in (i := 0) (n := 1) (by decide)) d_L_law_766 ?_
                                refine lv_iload hx hb d_L_law_767 (lv_at hl 0 rfl) ?_
                                refine lv_i2l hx hb d_L_law_769 rfl ?_
                                refine W.lcmp hx hb d_L_law_770 ?_
                                refine lv_if_eq (tgt := 776) hx hb d_L_law_771 (by decide) (fun hc => ?_) (fun hc => ?_)
                                · rw [if_pos (show (lg_cmp (o1.2.2.2 0) o2.1.toInt64) = 0 from hc)] at hf
                                  refine lv_goto (tgt := 779) hx hb d_L_law_776 (by decide) ?_
                                  refine lv_iinc (v := x4 + 4) (lv' := [(4, .int (x4 + 4)), (6, .int o2.1), (5, .int o1.1), (0, .ref b), (1, .ref (ad 0)), (2, .ref (am 0)), (3, .ref q)]) hx hb d_L_law_779 hl (k := 6) rfl rfl (by decide) rfl (fun ls hl => ?_)
                                  refine lv_goto (tgt := 23) hx hb d_L_law_782 (by decide) ?_
                                  refine W.widen (k := 17 + (it + 1)) (n := 1030 + 6 * (it + 1)) (by omega) (by omega) ?_
                                  exact ih (it + 1) (x4 + 4) gB gE gC gO gn gF o1.2.1 o1.2.2.1 o2.2.1 mn mB mE mC mO mF o2.2.2.1 o2.2.2.2 o1.2.2.2 hf (by rw [hx4]; exact lw_next it) (by omega) (by omega) _ _ _ hP hD hS (lv_sub hl [3, 4, 5, 6, 0] rfl)
                                · rw [if_neg (show ¬ (lg_cmp (o1.2.2.2 0) o2.1.toInt64) = 0 from hc)] at hf
                                  refine lv_iconst (v := 0) hx hb d_L_law_774 (by decide) ?_
                                  cases hf
                            · rw [if_neg hc] at hf
                              refine lv_iconst (v := 0) hx hb d_L_law_757 (by decide) ?_
                              cases hf
                          · rw [if_neg h10] at hf
                            refine lv_tableOut (tgt := 779) hx hb d_L_law_39 (lw_sw h0 h1 h2 h3 h4 h5 h6 h7 h8 h9 h10) (by decide) ?_
                            refine lv_iinc (v := x4 + 4) (lv' := [(4, .int (x4 + 4)), (0, .ref b), (1, .ref (ad 0)), (2, .ref (am 0)), (3, .ref q)]) hx hb d_L_law_779 hl (k := 4) rfl rfl (by decide) rfl (fun ls hl => ?_)
                            refine lv_goto (tgt := 23) hx hb d_L_law_782 (by decide) ?_
                            refine W.widen (k := 17 + (it + 1)) (n := 1030 + 6 * (it + 1)) (by omega) (by omega) ?_
                            exact ih (it + 1) (x4 + 4) gB gE gC gO gn gF gL gV mt mn mB mE mC mO mF mL mV w hf (by rw [hx4]; exact lw_next it) (by omega) (by omega) _ _ _ hP hD hS (lv_sub hl [1, 2, 3, 4, 0] rfl)
