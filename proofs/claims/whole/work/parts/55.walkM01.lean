set_option maxHeartbeats 4000000 in
set_option maxRecDepth 100000 in
theorem w_M_spread_2 {p : Program} {l : Launch} {e : Env} {s : State} {m : MethodId} {args : Array Value} {below : List Frame} {meth : Method} {c : Code} {Q : State → Prop} {A : Nat → Prop} {dC : Nat → ClassId} {dI : Nat → Nat → Nat} {cI cZ : ClassId} {ad : Nat → Nat} (hx : p.tables.exec = Jvm.exec) (hb : c.code = b_M_spread) (hml : c.maxLocals = 4) (hown : s.vm.findClass R_M = some m.cls) (hts : ∀ w ∈ gw, w.before args s = true) (hK : va_K (dC, dI) classes (gT cI cZ) s) (hA : ∀ q : Nat, s.heap.size ≤ q → A q) (x1 : Int32) (t : Int32) (n : Int32) (B : fg_A) (E : fg_A) (C : fg_A) (O : fg_A) (F : fg_A) (L : fg_A) :
    ∀ (k : Nat) (x2 : Int32) (V : fg_A) (o : fg_A), f_M_spread_2 x1 k x2 V = some o → ∀ (H : Heap) (locs : List Loc) (ls : Array Slot), va_P (dC, dI) classes (mW cI cZ ad t n B E C O F L V) H → va_D A (mW cI cZ ad t n B E C O F L V) → va_S A s.heap H locs → lv_has ls 4 [(0, .ref (ad 0)), (1, .int x1), (2, .int x2)] →
    (∀ (H : Heap) (locs : List Loc) (ls : Array Slot), va_P (dC, dI) classes (mW cI cZ ad t n B E C O F L o) H → va_D A (mW cI cZ ad t n B E C O F L o) → va_S A s.heap H locs → lv_has ls 4 [(0, .ref (ad 0)), (1, .int x1)] → W p l e (headSpec w_M_spread rm_M_spread).room s m args below meth c H locs 0 0 Q (F0 m 21 ls [])) → W p l e (headSpec w_M_spread rm_M_spread).room s m args below meth c H locs 0 0 Q (F0 m 2 ls []) := by
  intro k
  induction k with
  | zero =>
    intro x2 V o hf
    exact absurd (show none = some o from hf) (by simp)
  | succ k ih =>
    intro x2 V o hf H locs ls hP hD hS hl hk
    rw [f_M_spread_2] at hf
    refine lv_iload_n hx hb d_M_spread_2 rfl (lv_at hl 2 rfl) ?_
    refine lv_bipush (v := 28) hx hb d_M_spread_3 (by decide) ?_
    refine lv_icmp_ge (tgt := 21) hx hb d_M_spread_5 (by decide) (fun hc => ?_) (fun hc => ?_)
    · rw [if_pos hc] at hf
      cases hf
      exact hk _ _ _ hP hD hS (lv_sub hl [0, 1] rfl)
    · rw [if_neg hc] at hf
      refine lv_aload_n hx hb d_M_spread_8 rfl (lv_at hl 0 rfl) ?_
      refine va_get (D := (dC, dI)) (ci := 1) (v := .ref (ad 7)) (C := R_M) (T := F_M) (N := 9) hx hb hts i_M hown hK hP 0 rfl rfl 8 (by decide) (hts _ fl_M_29) (fun _ h9 => h9) rfl d_M_spread_9 ?_
      refine lv_iload_n hx hb d_M_spread_12 rfl (lv_at hl 2 rfl) ?_
      refine lv_iconst (v := 0) hx hb d_M_spread_13 (by decide) ?_
      obtain ⟨hi, hf⟩ := fg_og_some hf
      refine va_iast hx hb hK hP hD hS 7 0 rfl rfl (ix_in hi) d_M_spread_14 (fun H locs hP hD hS => ?_)
      have hP : va_P (dC, dI) classes (mW cI cZ ad t n B E C O F L (upd V x2.toNatClampNeg 0)) H := hP
      have hD : va_D A (mW cI cZ ad t n B E C O F L (upd V x2.toNatClampNeg 0)) := hD
      refine lv_iinc (v := x2 + 1) (lv' := [(2, .int (x2 + 1)), (0, .ref (ad 0)), (1, .int x1)]) hx hb d_M_spread_15 hl (k := 2) rfl rfl (by decide) rfl (fun ls hl => ?_)
      refine lv_goto (tgt := 2) hx hb d_M_spread_18 (by decide) ?_
      exact ih (x2 + 1) (upd V x2.toNatClampNeg 0) _ hf _ _ _ hP hD hS (lv_sub hl [1, 2, 0] rfl) hk
set_option maxHeartbeats 4000000 in
set_option maxRecDepth 100000 in
theorem w_M_spread_38 {p : Program} {l : Launch} {e : Env} {s : State} {m : MethodId} {args : Array Value} {below : List Frame} {meth : Method} {c : Code} {Q : State → Prop} {A : Nat → Prop} {dC : Nat → ClassId} {dI : Nat → Nat → Nat} {cI cZ : ClassId} {ad : Nat → Nat} (hx : p.tables.exec = Jvm.exec) (hb : c.code = b_M_spread) (hml : c.maxLocals = 4) (hown : s.vm.findClass R_M = some m.cls) (hts : ∀ w ∈ gw, w.before args s = true) (hK : va_K (dC, dI) classes (gT cI cZ) s) (hA : ∀ q : Nat, s.heap.size ≤ q → A q) (t : Int32) (n : Int32) (B : fg_A) (E : fg_A) (C : fg_A) (O : fg_A) (F : fg_A) (L : fg_A) :
    ∀ (k : Nat) (x2 : Int32) (x3 : Int32) (V : fg_A) (o : Int32 × fg_A), f_M_spread_38 n B E C O L k x2 x3 V = some o → ∀ (H : Heap) (locs : List Loc) (ls : Array Slot), va_P (dC, dI) classes (mW cI cZ ad t n B E C O F L V) H → va_D A (mW cI cZ ad t n B E C O F L V) → va_S A s.heap H locs → lv_has ls 4 [(0, .ref (ad 0)), (2, .int x2), (3, .int x3)] →
    (∀ (H : Heap) (locs : List Loc) (ls : Array Slot), va_P (dC, dI) classes (mW cI cZ ad t n B E C O F L o.2) H → va_D A (mW cI cZ ad t n B E C O F L o.2) → va_S A s.heap H locs → lv_has ls 4 [(0, .ref (ad 0)), (2, .int o.1)] → W p l e (headSpec w_M_spread rm_M_spread).room s m args below meth c H locs 0 0 Q (F0 m 186 ls [])) → W p l e (headSpec w_M_spread rm_M_spread).room s m args below meth c H locs 0 0 Q (F0 m 38 ls []) := by
  intro k
  induction k with
  | zero =>
    intro x2 x3 V o hf
    exact absurd (show none = some o from hf) (by simp)
  | succ k ih =>
    intro x2 x3 V o hf H locs ls hP hD hS hl hk
    rw [f_M_spread_38] at hf
    refine lv_iload_n hx hb d_M_spread_38 rfl (lv_at hl 2 rfl) ?_
    refine lv_aload_n hx hb d_M_spread_39 rfl (lv_at hl 0 rfl) ?_
    refine va_get (D := (dC, dI)) (ci := 1) (v := .int n) (C := R_M) (T := F_M) (N := 9) hx hb hts i_M hown hK hP 0 rfl rfl 1 (by decide) (hts _ fl_M_40) (fun _ h9 => h9) rfl d_M_spread_40 ?_
    refine lv_icmp_ge (tgt := 186) hx hb d_M_spread_43 (by decide) (fun hc => ?_) (fun hc => ?_)
    · rw [if_pos hc] at hf
      cases hf
      exact hk _ _ _ hP hD hS (lv_sub hl [0, 1] rfl)
    · rw [if_neg hc] at hf
      refine lv_aload_n hx hb d_M_spread_46 rfl (lv_at hl 0 rfl) ?_
      refine va_get (D := (dC, dI)) (ci := 1) (v := .ref (ad 4)) (C := R_M) (T := F_M) (N := 9) hx hb hts i_M hown hK hP 0 rfl rfl 5 (by decide) (hts _ fl_M_19) (fun _ h9 => h9) rfl d_M_spread_47 ?_
      refine lv_iload_n hx hb d_M_spread_50 rfl (lv_at hl 2 rfl) ?_
      obtain ⟨hi, hf⟩ := fg_og_some hf
      refine va_zald hx hb hK hP 4 1 rfl rfl (ix_in hi) d_M_spread_51 ?_
      refine lv_if_eq (tgt := 116) hx hb d_M_spread_52 (by decide) (fun hc => ?_) (fun hc => ?_)
      · rw [if_pos hc] at hf
        refine lv_aload_n hx hb d_M_spread_116 rfl (lv_at hl 0 rfl) ?_
        refine va_get (D := (dC, dI)) (ci := 1) (v := .ref (ad 4)) (C := R_M) (T := F_M) (N := 9) hx hb hts i_M hown hK hP 0 rfl rfl 5 (by decide) (hts _ fl_M_19) (fun _ h9 => h9) rfl d_M_spread_117 ?_
        refine lv_iload_n hx hb d_M_spread_120 rfl (lv_at hl 2 rfl) ?_
        obtain ⟨hi, hf⟩ := fg_og_some hf
        refine va_zald hx hb hK hP 4 1 rfl rfl (ix_in hi) d_M_spread_121 ?_
        refine lv_if_eq (tgt := 180) hx hb d_M_spread_122 (by decide) (fun hc => ?_) (fun hc => ?_)
        · rw [if_pos hc] at hf
          refine lv_iinc (v := x3 + 1) (lv' := [(3, .int (x3 + 1)), (0, .ref (ad 0)), (2, .int x2)]) hx hb d_M_spread_180 hl (k := 2) rfl rfl (by decide) rfl (fun ls hl => ?_)
          refine lv_goto (tgt := 38) hx hb d_M_spread_183 (by decide) ?_
          exact ih x2 (x3 + 1) V _ hf _ _ _ hP hD hS (lv_sub hl [1, 2, 0] rfl) hk
        · rw [if_neg hc] at hf
          refine lv_aload_n hx hb d_M_spread_125 rfl (lv_at hl 0 rfl) ?_
          refine va_get (D := (dC, dI)) (ci := 1) (v := .ref (ad 7)) (C := R_M) (T := F_M) (N := 9) hx hb hts i_M hown hK hP 0 rfl rfl 8 (by decide) (hts _ fl_M_29) (fun _ h9 => h9) rfl d_M_spread_126 ?_
          refine lv_aload_n hx hb d_M_spread_129 rfl (lv_at hl 0 rfl) ?_
          refine va_get (D := (dC, dI)) (ci := 1) (v := .ref (ad 2)) (C := R_M) (T := F_M) (N := 9) hx hb hts i_M hown hK hP 0 rfl rfl 3 (by decide) (hts _ fl_M_13) (fun _ h9 => h9) rfl d_M_spread_130 ?_
          refine lv_iload_n hx hb d_M_spread_133 rfl (lv_at hl 2 rfl) ?_
          obtain ⟨hi, hf⟩ := fg_og_some hf
          refine va_iald hx hb hK hP 2 0 rfl rfl (ix_in hi) d_M_spread_134 ?_
          obtain ⟨hi, hf⟩ := fg_og_some hf
          refine va_iald hx hb hK hP 7 0 rfl rfl (ix_in hi) d_M_spread_135 ?_
          refine lv_if_le (tgt := 180) hx hb d_M_spread_136 (by decide) (fun hc => ?_) (fun hc => ?_)
          · rw [if_pos hc] at hf
            refine lv_iinc (v := x3 + 1) (lv' := [(3, .int (x3 + 1)), (0, .ref (ad 0)), (2, .int x2)]) hx hb d_M_spread_180 hl (k := 2) rfl rfl (by decide) rfl (fun ls hl => ?_)
            refine lv_goto (tgt := 38) hx hb d_M_spread_183 (by decide) ?_
            exact ih x2 (x3 + 1) V _ hf _ _ _ hP hD hS (lv_sub hl [1, 2, 0] rfl) hk
          · rw [if_neg hc] at hf
            refine lv_aload_n hx hb d_M_spread_139 rfl (lv_at hl 0 rfl) ?_
            refine va_get (D := (dC, dI)) (ci := 1) (v := .ref (ad 7)) (C := R_M) (T := F_M) (N := 9) hx hb hts i_M hown hK hP 0 rfl rfl 8 (by decide) (hts _ fl_M_29) (fun _ h9 => h9) rfl d_M_spread_140 ?_
            refine lv_aload_n hx hb d_M_spread_143 rfl (lv_at hl 0 rfl) ?_
            refine va_get (D := (dC, dI)) (ci := 1) (v := .ref (ad 1)) (C := R_M) (T := F_M) (N := 9) hx hb hts i_M hown hK hP 0 rfl rfl 2 (by decide) (hts _ fl_M_7) (fun _ h9 => h9) rfl d_M_spread_144 ?_
            refine lv_iload_n hx hb d_M_spread_147 rfl (lv_at hl 2 rfl) ?_
            obtain ⟨hi, hf⟩ := fg_og_some hf
            refine va_iald hx hb hK hP 1 0 rfl rfl (ix_in hi) d_M_spread_148 ?_
            obtain ⟨hi, hf⟩ := fg_og_some hf
            refine va_iald hx hb hK hP 7 0 rfl rfl (ix_in hi) d_M_spread_149 ?_
            refine lv_if_ne (tgt := 180) hx hb d_M_spread_150 (by decide) (fun hc => ?_) (fun hc => ?_)
            · rw [if_neg hc] at hf
              refine lv_iinc (v := x3 + 1) (lv' := [(3, .int (x3 + 1)), (0, .ref (ad 0)), (2, .int x2)]) hx hb d_M_spread_180 hl (k := 2) rfl rfl (by decide) rfl (fun ls hl => ?_)
              refine lv_goto (tgt := 38) hx hb d_M_spread_183 (by decide) ?_
              exact ih x2 (x3 + 1) V _ hf _ _ _ hP hD hS (lv_sub hl [1, 2, 0] rfl) hk
            · rw [if_pos hc] at hf
              refine lv_aload_n hx hb d_M_spread_153 rfl (lv_at hl 0 rfl) ?_
              refine va_get (D := (dC, dI)) (ci := 1) (v := .ref (ad 6)) (C := R_M) (T := F_M) (N := 9) hx hb hts i_M hown hK hP 0 rfl rfl 7 (by decide) (hts _ fl_M_26) (fun _ h9 => h9) rfl d_M_spread_154 ?_
              refine lv_iload_n hx hb d_M_spread_157 rfl (lv_at hl 2 rfl) ?_
              obtain ⟨hi, hf⟩ := fg_og_some hf
              refine va_iald hx hb hK hP 6 0 rfl rfl (ix_in hi) d_M_spread_158 ?_
              refine lv_if_le (tgt := 180) hx hb d_M_spread_159 (by decide) (fun hc => ?_) (fun hc => ?_)
              · rw [if_pos hc] at hf
                refine lv_iinc (v := x3 + 1) (lv' := [(3, .int (x3 + 1)), (0, .ref (ad 0)), (2, .int x2)]) hx hb d_M_spread_180 hl (k := 2) rfl rfl (by decide) rfl (fun ls hl => ?_)
                refine lv_goto (tgt := 38) hx hb d_M_spread_183 (by decide) ?_
                exact ih x2 (x3 + 1) V _ hf _ _ _ hP hD hS (lv_sub hl [1, 2, 0] rfl) hk
              · rw [if_neg hc] at hf
                refine lv_aload_n hx hb d_M_spread_162 rfl (lv_at hl 0 rfl) ?_
                refine va_get (D := (dC, dI)) (ci := 1) (v := .ref (ad 7)) (C := R_M) (T := F_M) (N := 9) hx hb hts i_M hown hK hP 0 rfl rfl 8 (by decide) (hts _ fl_M_29) (fun _ h9 => h9) rfl d_M_spread_163 ?_
                refine lv_aload_n hx hb d_M_spread_166 rfl (lv_at hl 0 rfl) ?_
                refine va_get (D := (dC, dI)) (ci := 1) (v := .ref (ad 1)) (C := R_M) (T := F_M) (N := 9) hx hb hts i_M hown hK hP 0 rfl rfl 2 (by decide) (hts _ fl_M_7) (fun _ h9 => h9) rfl d_M_spread_167 ?_
                refine lv_iload_n hx hb d_M_spread_170 rfl (lv_at hl 2 rfl) ?_
                obtain ⟨hi, hf⟩ := fg_og_some hf
                refine va_iald hx hb hK hP 1 0 rfl rfl (ix_in hi) d_M_spread_171 ?_
                refine lv_iconst (v := 3) hx hb d_M_spread_172 (by decide) ?_
                refine lv_iconst (v := 2) hx hb d_M_spread_173 (by decide) ?_
                refine lv_iload_n hx hb d_M_spread_174 rfl (lv_at hl 2 rfl) ?_
                refine lv_imul hx hb d_M_spread_175 ?_
                refine lv_iadd hx hb d_M_spread_176 ?_
                obtain ⟨hi, hf⟩ := fg_og_some hf
                refine va_iast hx hb hK hP hD hS 7 0 rfl rfl (ix_in hi) d_M_spread_177 (fun H locs hP hD hS => ?_)
                have hP : va_P (dC, dI) classes (mW cI cZ ad t n B E C O F L (upd V (B x3.toNatClampNeg).toNatClampNeg (3 + (2 * x3)))) H := hP
                have hD : va_D A (mW cI cZ ad t n B E C O F L (upd V (B x3.toNatClampNeg).toNatClampNeg (3 + (2 * x3)))) := hD
                refine lv_iconst (v := 1) hx hb d_M_spread_178 (by decide) ?_
                refine lv_istore_n (lv' := [(2, .int 1), (0, .ref (ad 0)), (3, .int x3)]) hx hb d_M_spread_179 rfl hl (by decide) rfl (fun ls hl => ?_)
                refine lv_iinc (v := x3 + 1) (lv' := [(3, .int (x3 + 1)), (2, .int 1), (0, .ref (ad 0))]) hx hb d_M_spread_180 hl (k := 2) rfl rfl (by decide) rfl (fun ls hl => ?_)
                refine lv_goto (tgt := 38) hx hb d_M_spread_183 (by decide) ?_
                exact ih 1 (x3 + 1) (upd V (B x3.toNatClampNeg).toNatClampNeg (3 + (2 * x3))) _ hf _ _ _ hP hD hS (lv_sub hl [2, 1, 0] rfl) hk
      · rw [if_neg hc] at hf
        refine lv_aload_n hx hb d_M_spread_55 rfl (lv_at hl 0 rfl) ?_
        refine va_get (D := (dC, dI)) (ci := 1) (v := .ref (ad 7)) (C := R_M) (T := F_M) (N := 9) hx hb hts i_M hown hK hP 0 rfl rfl 8 (by decide) (hts _ fl_M_29) (fun _ h9 => h9) rfl d_M_spread_56 ?_
        refine lv_aload_n hx hb d_M_spread_59 rfl (lv_at hl 0 rfl) ?_
        refine va_get (D := (dC, dI)) (ci := 1) (v := .ref (ad 1)) (C := R_M) (T := F_M) (N := 9) hx hb hts i_M hown hK hP 0 rfl rfl 2 (by decide) (hts _ fl_M_7) (fun _ h9 => h9) rfl d_M_spread_60 ?_
        refine lv_iload_n hx hb d_M_spread_63 rfl (lv_at hl 2 rfl) ?_
        obtain ⟨hi, hf⟩ := fg_og_some hf
        refine va_iald hx hb hK hP 1 0 rfl rfl (ix_in hi) d_M_spread_64 ?_
        obtain ⟨hi, hf⟩ := fg_og_some hf
        refine va_iald hx hb hK hP 7 0 rfl rfl (ix_in hi) d_M_spread_65 ?_
        refine lv_if_le (tgt := 116) hx hb d_M_spread_66 (by decide) (fun hc => ?_) (fun hc => ?_)
        · rw [if_pos hc] at hf
          refine lv_aload_n hx hb d_M_spread_116 rfl (lv_at hl 0 rfl) ?_
          refine va_get (D := (dC, dI)) (ci := 1) (v := .ref (ad 4)) (C := R_M) (T := F_M) (N := 9) hx hb hts i_M hown hK hP 0 rfl rfl 5 (by decide) (hts _ fl_M_19) (fun _ h9 => h9) rfl d_M_spread_117 ?_
          refine lv_iload_n hx hb d_M_spread_120 rfl (lv_at hl 2 rfl) ?_
          obtain ⟨hi, hf⟩ := fg_og_some hf
          refine va_zald hx hb hK hP 4 1 rfl rfl (ix_in hi) d_M_spread_121 ?_
          refine lv_if_eq (tgt := 180) hx hb d_M_spread_122 (by decide) (fun hc => ?_) (fun hc => ?_)
          · rw [if_pos hc] at hf
            refine lv_iinc (v := x3 + 1) (lv' := [(3, .int (x3 + 1)), (0, .ref (ad 0)), (2, .int x2)]) hx hb d_M_spread_180 hl (k := 2) rfl rfl (by decide) rfl (fun ls hl => ?_)
            refine lv_goto (tgt := 38) hx hb d_M_spread_183 (by decide) ?_
            exact ih x2 (x3 + 1) V _ hf _ _ _ hP hD hS (lv_sub hl [1, 2, 0] rfl) hk
          · rw [if_neg hc] at hf
            refine lv_aload_n hx hb d_M_spread_125 rfl (lv_at hl 0 rfl) ?_
            refine va_get (D := (dC, dI)) (ci := 1) (v := .ref (ad 7)) (C := R_M) (T := F_M) (N := 9) hx hb hts i_M hown hK hP 0 rfl rfl 8 (by decide) (hts _ fl_M_29) (fun _ h9 => h9) rfl d_M_spread_126 ?_
            refine lv_aload_n hx hb d_M_spread_129 rfl (lv_at hl 0 rfl) ?_
            refine va_get (D := (dC, dI)) (ci := 1) (v := .ref (ad 2)) (C := R_M) (T := F_M) (N := 9) hx hb hts i_M hown hK hP 0 rfl rfl 3 (by decide) (hts _ fl_M_13) (fun _ h9 => h9) rfl d_M_spread_130 ?_
            refine lv_iload_n hx hb d_M_spread_133 rfl (lv_at hl 2 rfl) ?_
            obtain ⟨hi, hf⟩ := fg_og_some hf
            refine va_iald hx hb hK hP 2 0 rfl rfl (ix_in hi) d_M_spread_134 ?_
            obtain ⟨hi, hf⟩ := fg_og_some hf
            refine va_iald hx hb hK hP 7 0 rfl rfl (ix_in hi) d_M_spread_135 ?_
            refine lv_if_le (tgt := 180) hx hb d_M_spread_136 (by decide) (fun hc => ?_) (fun hc => ?_)
            · rw [if_pos hc] at hf
              refine lv_iinc (v := x3 + 1) (lv' := [(3, .int (x3 + 1)), (0, .ref (ad 0)), (2, .int x2)]) hx hb d_M_spread_180 hl (k := 2) rfl rfl (by decide) rfl (fun ls hl => ?_)
              refine lv_goto (tgt := 38) hx hb d_M_spread_183 (by decide) ?_
              exact ih x2 (x3 + 1) V _ hf _ _ _ hP hD hS (lv_sub hl [1, 2, 0] rfl) hk
            · rw [if_neg hc] at hf
              refine lv_aload_n hx hb d_M_spread_139 rfl (lv_at hl 0 rfl) ?_
              refine va_get (D := (dC, dI)) (ci := 1) (v := .ref (ad 7)) (C := R_M) (T := F_M) (N := 9) hx hb hts i_M hown hK hP 0 rfl rfl 8 (by decide) (hts _ fl_M_29) (fun _ h9 => h9) rfl d_M_spread_140 ?_
              refine lv_aload_n hx hb d_M_spread_143 rfl (lv_at hl 0 rfl) ?_
              refine va_get (D := (dC, dI)) (ci := 1) (v := .ref (ad 1)) (C := R_M) (T := F_M) (N := 9) hx hb hts i_M hown hK hP 0 rfl rfl 2 (by decide) (hts _ fl_M_7) (fun _ h9 => h9) rfl d_M_spread_144 ?_
              refine lv_iload_n hx hb d_M_spread_147 rfl (lv_at hl 2 rfl) ?_
              obtain ⟨hi, hf⟩ := fg_og_some hf
              refine va_iald hx hb hK hP 1 0 rfl rfl (ix_in hi) d_M_spread_148 ?_
              obtain ⟨hi, hf⟩ := fg_og_some hf
              refine va_iald hx hb hK hP 7 0 rfl rfl (ix_in hi) d_M_spread_149 ?_
              refine lv_if_ne (tgt := 180) hx hb d_M_spread_150 (by decide) (fun hc => ?_) (fun hc => ?_)
              · rw [if_neg hc] at hf
                refine lv_iinc (v := x3 + 1) (lv' := [(3, .int (x3 + 1)), (0, .ref (ad 0)), (2, .int x2)]) hx hb d_M_spread_180 hl (k := 2) rfl rfl (by decide) rfl (fun ls hl => ?_)
                refine lv_goto (tgt := 38) hx hb d_M_spread_183 (by decide) ?_
                exact ih x2 (x3 + 1) V _ hf _ _ _ hP hD hS (lv_sub hl [1, 2, 0] rfl) hk
              · rw [if_pos hc] at hf
                refine lv_aload_n hx hb d_M_spread_153 rfl (lv_at hl 0 rfl) ?_
                refine va_get (D := (dC, dI)) (ci := 1) (v := .ref (ad 6)) (C := R_M) (T := F_M) (N := 9) hx hb hts i_M hown hK hP 0 rfl rfl 7 (by decide) (hts _ fl_M_26) (fun _ h9 => h9) rfl d_M_spread_154 ?_
                refine lv_iload_n hx hb d_M_spread_157 rfl (lv_at hl 2 rfl) ?_
                obtain ⟨hi, hf⟩ := fg_og_some hf
                refine va_iald hx hb hK hP 6 0 rfl rfl (ix_in hi) d_M_spread_158 ?_
                refine lv_if_le (tgt := 180) hx hb d_M_spread_159 (by decide) (fun hc => ?_) (fun hc => ?_)
                · rw [if_pos hc] at hf
                  refine lv_iinc (v := x3 + 1) (lv' := [(3, .int (x3 + 1)), (0, .ref (ad 0)), (2, .int x2)]) hx hb d_M_spread_180 hl (k := 2) rfl rfl (by decide) rfl (fun ls hl => ?_)
                  refine lv_goto (tgt := 38) hx hb d_M_spread_183 (by decide) ?_
                  exact ih x2 (x3 + 1) V _ hf _ _ _ hP hD hS (lv_sub hl [1, 2, 0] rfl) hk
                · rw [if_neg hc] at hf
                  refine lv_aload_n hx hb d_M_spread_162 rfl (lv_at hl 0 rfl) ?_
                  refine va_get (D := (dC, dI)) (ci := 1) (v := .ref (ad 7)) (C := R_M) (T := F_M) (N := 9) hx hb hts i_M hown hK hP 0 rfl rfl 8 (by decide) (hts _ fl_M_29) (fun _ h9 => h9) rfl d_M_spread_163 ?_
                  refine lv_aload_n hx hb d_M_spread_166 rfl (lv_at hl 0 rfl) ?_
                  refine va_get (D := (dC, dI)) (ci := 1) (v := .ref (ad 1)) (C := R_M) (T := F_M) (N := 9) hx hb hts i_M hown hK hP 0 rfl rfl 2 (by decide) (hts _ fl_M_7) (fun _ h9 => h9) rfl d_M_spread_167 ?_
                  refine lv_iload_n hx hb d_M_spread_170 rfl (lv_at hl 2 rfl) ?_
                  obtain ⟨hi, hf⟩ := fg_og_some hf
                  refine va_iald hx hb hK hP 1 0 rfl rfl (ix_in hi) d_M_spread_171 ?_
                  refine lv_iconst (v := 3) hx hb d_M_spread_172 (by decide) ?_
                  refine lv_iconst (v := 2) hx hb d_M_spread_173 (by decide) ?_
                  refine lv_iload_n hx hb d_M_spread_174 rfl (lv_at hl 2 rfl) ?_
                  refine lv_imul hx hb d_M_spread_175 ?_
                  refine lv_iadd hx hb d_M_spread_176 ?_
                  obtain ⟨hi, hf⟩ := fg_og_some hf
                  refine va_iast hx hb hK hP hD hS 7 0 rfl rfl (ix_in hi) d_M_spread_177 (fun H locs hP hD hS => ?_)
                  have hP : va_P (dC, dI) classes (mW cI cZ ad t n B E C O F L (upd V (B x3.toNatClampNeg).toNatClampNeg (3 + (2 * x3)))) H := hP
                  have hD : va_D A (mW cI cZ ad t n B E C O F L (upd V (B x3.toNatClampNeg).toNatClampNeg (3 + (2 * x3)))) := hD
                  refine lv_iconst (v := 1) hx hb d_M_spread_178 (by decide) ?_
                  refine lv_istore_n (lv' := [(2, .int 1), (0, .ref (ad 0)), (3, .int x3)]) hx hb d_M_spread_179 rfl hl (by decide) rfl (fun ls hl => ?_)
                  refine lv_iinc (v := x3 + 1) (lv' := [(3, .int (x3 + 1)), (2, .int 1), (0, .ref (ad 0))]) hx hb d_M_spread_180 hl (k := 2) rfl rfl (by decide) rfl (fun ls hl => ?_)
                  refine lv_goto (tgt := 38) hx hb d_M_spread_183 (by decide) ?_
                  exact ih 1 (x3 + 1) (upd V (B x3.toNatClampNeg).toNatClampNeg (3 + (2 * x3))) _ hf _ _ _ hP hD hS (lv_sub hl [2, 1, 0] rfl) hk
        · rw [if_neg hc] at hf
          refine lv_aload_n hx hb d_M_spread_69 rfl (lv_at hl 0 rfl) ?_
          refine va_get (D := (dC, dI)) (ci := 1) (v := .ref (ad 7)) (C := R_M) (T := F_M) (N := 9) hx hb hts i_M hown hK hP 0 rfl rfl 8 (by decide) (hts _ fl_M_29) (fun _ h9 => h9) rfl d_M_spread_70 ?_
          refine lv_aload_n hx hb d_M_spread_73 rfl (lv_at hl 0 rfl) ?_
          refine va_get (D := (dC, dI)) (ci := 1) (v := .ref (ad 2)) (C := R_M) (T := F_M) (N := 9) hx hb hts i_M hown hK hP 0 rfl rfl 3 (by decide) (hts _ fl_M_13) (fun _ h9 => h9) rfl d_M_spread_74 ?_
          refine lv_iload_n hx hb d_M_spread_77 rfl (lv_at hl 2 rfl) ?_
          obtain ⟨hi, hf⟩ := fg_og_some hf
          refine va_iald hx hb hK hP 2 0 rfl rfl (ix_in hi) d_M_spread_78 ?_
          obtain ⟨hi, hf⟩ := fg_og_some hf
          refine va_iald hx hb hK hP 7 0 rfl rfl (ix_in hi) d_M_spread_79 ?_
          refine lv_if_ne (tgt := 116) hx hb d_M_spread_80 (by decide) (fun hc => ?_) (fun hc => ?_)
          · rw [if_neg hc] at hf
            refine lv_aload_n hx hb d_M_spread_116 rfl (lv_at hl 0 rfl) ?_
            refine va_get (D := (dC, dI)) (ci := 1) (v := .ref (ad 4)) (C := R_M) (T := F_M) (N := 9) hx hb hts i_M hown hK hP 0 rfl rfl 5 (by decide) (hts _ fl_M_19) (fun _ h9 => h9) rfl d_M_spread_117 ?_
            refine lv_iload_n hx hb d_M_spread_120 rfl (lv_at hl 2 rfl) ?_
            obtain ⟨hi, hf⟩ := fg_og_some hf
            refine va_zald hx hb hK hP 4 1 rfl rfl (ix_in hi) d_M_spread_121 ?_
            refine lv_if_eq (tgt := 180) hx hb d_M_spread_122 (by decide) (fun hc => ?_) (fun hc => ?_)
            · rw [if_pos hc] at hf
              refine lv_iinc (v := x3 + 1) (lv' := [(3, .int (x3 + 1)), (0, .ref (ad 0)), (2, .int x2)]) hx hb d_M_spread_180 hl (k := 2) rfl rfl (by decide) rfl (fun ls hl => ?_)
              refine lv_goto (tgt := 38) hx hb d_M_spread_183 (by decide) ?_
              exact ih x2 (x3 + 1) V _ hf _ _ _ hP hD hS (lv_sub hl [1, 2, 0] rfl) hk
            · rw [if_neg hc] at hf
              refine lv_aload_n hx hb d_M_spread_125 rfl (lv_at hl 0 rfl) ?_
              refine va_get (D := (dC, dI)) (ci := 1) (v := .ref (ad 7)) (C := R_M) (T := F_M) (N := 9) hx hb hts i_M hown hK hP 0 rfl rfl 8 (by decide) (hts _ fl_M_29) (fun _ h9 => h9) rfl d_M_spread_126 ?_
              refine lv_aload_n hx hb d_M_spread_129 rfl (lv_at hl 0 rfl) ?_
              refine va_get (D := (dC, dI)) (ci := 1) (v := .ref (ad 2)) (C := R_M) (T := F_M) (N := 9) hx hb hts i_M hown hK hP 0 rfl rfl 3 (by decide) (hts _ fl_M_13) (fun _ h9 => h9) rfl d_M_spread_130 ?_
              refine lv_iload_n hx hb d_M_spread_133 rfl (lv_at hl 2 rfl) ?_
              obtain ⟨hi, hf⟩ := fg_og_some hf
              refine va_iald hx hb hK hP 2 0 rfl rfl (ix_in hi) d_M_spread_134 ?_
              obtain ⟨hi, hf⟩ := fg_og_some hf
              refine va_iald hx hb hK hP 7 0 rfl rfl (ix_in hi) d_M_spread_135 ?_
              refine lv_if_le (tgt := 180) hx hb d_M_spread_136 (by decide) (fun hc => ?_) (fun hc => ?_)
              · rw [if_pos hc] at hf
                refine lv_iinc (v := x3 + 1) (lv' := [(3, .int (x3 + 1)), (0, .ref (ad 0)), (2, .int x2)]) hx hb d_M_spread_180 hl (k := 2) rfl rfl (by decide) rfl (fun ls hl => ?_)
                refine lv_goto (tgt := 38) hx hb d_M_spread_183 (by decide) ?_
                exact ih x2 (x3 + 1) V _ hf _ _ _ hP hD hS (lv_sub hl [1, 2, 0] rfl) hk
              · rw [if_neg hc] at hf
                refine lv_aload_n hx hb d_M_spread_139 rfl (lv_at hl 0 rfl) ?_
                refine va_get (D := (dC, dI)) (ci := 1) (v := .ref (ad 7)) (C := R_M) (T := F_M) (N := 9) hx hb hts i_M hown hK hP 0 rfl rfl 8 (by decide) (hts _ fl_M_29) (fun _ h9 => h9) rfl d_M_spread_140 ?_
                refine lv_aload_n hx hb d_M_spread_143 rfl (lv_at hl 0 rfl) ?_
                refine va_get (D := (dC, dI)) (ci := 1) (v := .ref (ad 1)) (C := R_M) (T := F_M) (N := 9) hx hb hts i_M hown hK hP 0 rfl rfl 2 (by decide) (hts _ fl_M_7) (fun _ h9 => h9) rfl d_M_spread_144 ?_
                refine lv_iload_n hx hb d_M_spread_147 rfl (lv_at hl 2 rfl) ?_
                obtain ⟨hi, hf⟩ := fg_og_some hf
                refine va_iald hx hb hK hP 1 0 rfl rfl (ix_in hi) d_M_spread_148 ?_
                obtain ⟨hi, hf⟩ := fg_og_some hf
                refine va_iald hx hb hK hP 7 0 rfl rfl (ix_in hi) d_M_spread_149 ?_
                refine lv_if_ne (tgt := 180) hx hb d_M_spread_150 (by decide) (fun hc => ?_) (fun hc => ?_)
                · rw [if_neg hc] at hf
                  refine lv_iinc (v := x3 + 1) (lv' := [(3, .int (x3 + 1)), (0, .ref (ad 0)), (2, .int x2)]) hx hb d_M_spread_180 hl (k := 2) rfl rfl (by decide) rfl (fun ls hl => ?_)
                  refine lv_goto (tgt := 38) hx hb d_M_spread_183 (by decide) ?_
                  exact ih x2 (x3 + 1) V _ hf _ _ _ hP hD hS (lv_sub hl [1, 2, 0] rfl) hk
                · rw [if_pos hc] at hf
                  refine lv_aload_n hx hb d_M_spread_153 rfl (lv_at hl 0 rfl) ?_
                  refine va_get (D := (dC, dI)) (ci := 1) (v := .ref (ad 6)) (C := R_M) (T := F_M) (N := 9) hx hb hts i_M hown hK hP 0 rfl rfl 7 (by decide) (hts _ fl_M_26) (fun _ h9 => h9) rfl d_M_spread_154 ?_
                  refine lv_iload_n hx hb d_M_spread_157 rfl (lv_at hl 2 rfl) ?_
                  obtain ⟨hi, hf⟩ := fg_og_some hf
                  refine va_iald hx hb hK hP 6 0 rfl rfl (ix_in hi) d_M_spread_158 ?_
                  refine lv_if_le (tgt := 180) hx hb d_M_spread_159 (by decide) (fun hc => ?_) (fun hc => ?_)
                  · rw [if_pos hc] at hf
                    refine lv_iinc (v := x3 + 1) (lv' := [(3, .int (x3 + 1)), (0, .ref (ad 0)), (2, .int x2)]) hx hb d_M_spread_180 hl (k := 2) rfl rfl (by decide) rfl (fun ls hl => ?_)
                    refine lv_goto (tgt := 38) hx hb d_M_spread_183 (by decide) ?_
                    exact ih x2 (x3 + 1) V _ hf _ _ _ hP hD hS (lv_sub hl [1, 2, 0] rfl) hk
                  · rw [if_neg hc] at hf
                    refine lv_aload_n hx hb d_M_spread_162 rfl (lv_at hl 0 rfl) ?_
                    refine va_get (D := (dC, dI)) (ci := 1) (v := .ref (ad 7)) (C := R_M) (T := F_M) (N := 9) hx hb hts i_M hown hK hP 0 rfl rfl 8 (by decide) (hts _ fl_M_29) (fun _ h9 => h9) rfl d_M_spread_163 ?_
                    refine lv_aload_n hx hb d_M_spread_166 rfl (lv_at hl 0 rfl) ?_
                    refine va_get (D := (dC, dI)) (ci := 1) (v := .ref (ad 1)) (C := R_M) (T := F_M) (N := 9) hx hb hts i_M hown hK hP 0 rfl rfl 2 (by decide) (hts _ fl_M_7) (fun _ h9 => h9) rfl d_M_spread_167 ?_
                    refine lv_iload_n hx hb d_M_spread_170 rfl (lv_at hl 2 rfl) ?_
                    obtain ⟨hi, hf⟩ := fg_og_some hf
                    refine va_iald hx hb hK hP 1 0 rfl rfl (ix_in hi) d_M_spread_171 ?_
                    refine lv_iconst (v := 3) hx hb d_M_spread_172 (by decide) ?_
                    refine lv_iconst (v := 2) hx hb d_M_spread_173 (by decide) ?_
                    refine lv_iload_n hx hb d_M_spread_174 rfl (lv_at hl 2 rfl) ?_
                    refine lv_imul hx hb d_M_spread_175 ?_
                    refine lv_iadd hx hb d_M_spread_176 ?_
                    obtain ⟨hi, hf⟩ := fg_og_some hf
                    refine va_iast hx hb hK hP hD hS 7 0 rfl rfl (ix_in hi) d_M_spread_177 (fun H locs hP hD hS => ?_)
                    have hP : va_P (dC, dI) classes (mW cI cZ ad t n B E C O F L (upd V (B x3.toNatClampNeg).toNatClampNeg (3 + (2 * x3)))) H := hP
                    have hD : va_D A (mW cI cZ ad t n B E C O F L (upd V (B x3.toNatClampNeg).toNatClampNeg (3 + (2 * x3)))) := hD
                    refine lv_iconst (v := 1) hx hb d_M_spread_178 (by decide) ?_
                    refine lv_istore_n (lv' := [(2, .int 1), (0, .ref (ad 0)), (3, .int x3)]) hx hb d_M_spread_179 rfl hl (by decide) rfl (fun ls hl => ?_)
                    refine lv_iinc (v := x3 + 1) (lv' := [(3, .int (x3 + 1)), (2, .int 1), (0, .ref (ad 0))]) hx hb d_M_spread_180 hl (k := 2) rfl rfl (by decide) rfl (fun ls hl => ?_)
                    refine lv_goto (tgt := 38) hx hb d_M_spread_183 (by decide) ?_
                    exact ih 1 (x3 + 1) (upd V (B x3.toNatClampNeg).toNatClampNeg (3 + (2 * x3))) _ hf _ _ _ hP hD hS (lv_sub hl [2, 1, 0] rfl) hk
          · rw [if_pos hc] at hf
            refine lv_aload_n hx hb d_M_spread_83 rfl (lv_at hl 0 rfl) ?_
            refine va_get (D := (dC, dI)) (ci := 1) (v := .ref (ad 6)) (C := R_M) (T := F_M) (N := 9) hx hb hts i_M hown hK hP 0 rfl rfl 7 (by decide) (hts _ fl_M_26) (fun _ h9 => h9) rfl d_M_spread_84 ?_
            refine lv_iload_n hx hb d_M_spread_87 rfl (lv_at hl 2 rfl) ?_
            obtain ⟨hi, hf⟩ := fg_og_some hf
            refine va_iald hx hb hK hP 6 0 rfl rfl (ix_in hi) d_M_spread_88 ?_
            refine lv_aload_n hx hb d_M_spread_89 rfl (lv_at hl 0 rfl) ?_
            refine va_get (D := (dC, dI)) (ci := 1) (v := .ref (ad 3)) (C := R_M) (T := F_M) (N := 9) hx hb hts i_M hown hK hP 0 rfl rfl 4 (by decide) (hts _ fl_M_16) (fun _ h9 => h9) rfl d_M_spread_90 ?_
            refine lv_iload_n hx hb d_M_spread_93 rfl (lv_at hl 2 rfl) ?_
            obtain ⟨hi, hf⟩ := fg_og_some hf
            refine va_iald hx hb hK hP 3 0 rfl rfl (ix_in hi) d_M_spread_94 ?_
            refine lv_icmp_ge (tgt := 116) hx hb d_M_spread_95 (by decide) (fun hc => ?_) (fun hc => ?_)
            · rw [if_pos hc] at hf
              refine lv_aload_n hx hb d_M_spread_116 rfl (lv_at hl 0 rfl) ?_
              refine va_get (D := (dC, dI)) (ci := 1) (v := .ref (ad 4)) (C := R_M) (T := F_M) (N := 9) hx hb hts i_M hown hK hP 0 rfl rfl 5 (by decide) (hts _ fl_M_19) (fun _ h9 => h9) rfl d_M_spread_117 ?_
              refine lv_iload_n hx hb d_M_spread_120 rfl (lv_at hl 2 rfl) ?_
              obtain ⟨hi, hf⟩ := fg_og_some hf
              refine va_zald hx hb hK hP 4 1 rfl rfl (ix_in hi) d_M_spread_121 ?_
              refine lv_if_eq (tgt := 180) hx hb d_M_spread_122 (by decide) (fun hc => ?_) (fun hc => ?_)
              · rw [if_pos hc] at hf
                refine lv_iinc (v := x3 + 1) (lv' := [(3, .int (x3 + 1)), (0, .ref (ad 0)), (2, .int x2)]) hx hb d_M_spread_180 hl (k := 2) rfl rfl (by decide) rfl (fun ls hl => ?_)
                refine lv_goto (tgt := 38) hx hb d_M_spread_183 (by decide) ?_
                exact ih x2 (x3 + 1) V _ hf _ _ _ hP hD hS (lv_sub hl [1, 2, 0] rfl) hk
              · rw [if_neg hc] at hf
                refine lv_aload_n hx hb d_M_spread_125 rfl (lv_at hl 0 rfl) ?_
                refine va_get (D := (dC, dI)) (ci := 1) (v := .ref (ad 7)) (C := R_M) (T := F_M) (N := 9) hx hb hts i_M hown hK hP 0 rfl rfl 8 (by decide) (hts _ fl_M_29) (fun _ h9 => h9) rfl d_M_spread_126 ?_
                refine lv_aload_n hx hb d_M_spread_129 rfl (lv_at hl 0 rfl) ?_
                refine va_get (D := (dC, dI)) (ci := 1) (v := .ref (ad 2)) (C := R_M) (T := F_M) (N := 9) hx hb hts i_M hown hK hP 0 rfl rfl 3 (by decide) (hts _ fl_M_13) (fun _ h9 => h9) rfl d_M_spread_130 ?_
                refine lv_iload_n hx hb d_M_spread_133 rfl (lv_at hl 2 rfl) ?_
                obtain ⟨hi, hf⟩ := fg_og_some hf
                refine va_iald hx hb hK hP 2 0 rfl rfl (ix_in hi) d_M_spread_134 ?_
                obtain ⟨hi, hf⟩ := fg_og_some hf
                refine va_iald hx hb hK hP 7 0 rfl rfl (ix_in hi) d_M_spread_135 ?_
                refine lv_if_le (tgt := 180) hx hb d_M_spread_136 (by decide) (fun hc => ?_) (fun hc => ?_)
                · rw [if_pos hc] at hf
                  refine lv_iinc (v := x3 + 1) (lv' := [(3, .int (x3 + 1)), (0, .ref (ad 0)), (2, .int x2)]) hx hb d_M_spread_180 hl (k := 2) rfl rfl (by decide) rfl (fun ls hl => ?_)
                  refine lv_goto (tgt := 38) hx hb d_M_spread_183 (by decide) ?_
                  exact ih x2 (x3 + 1) V _ hf _ _ _ hP hD hS (lv_sub hl [1, 2, 0] rfl) hk
                · rw [if_neg hc] at hf
                  refine lv_aload_n hx hb d_M_spread_139 rfl (lv_at hl 0 rfl) ?_
                  refine va_get (D := (dC, dI)) (ci := 1) (v := .ref (ad 7)) (C := R_M) (T := F_M) (N := 9) hx hb hts i_M hown hK hP 0 rfl rfl 8 (by decide) (hts _ fl_M_29) (fun _ h9 => h9) rfl d_M_spread_140 ?_
                  refine lv_aload_n hx hb d_M_spread_143 rfl (lv_at hl 0 rfl) ?_
                  refine va_get (D := (dC, dI)) (ci := 1) (v := .ref (ad 1)) (C := R_M) (T := F_M) (N := 9) hx hb hts i_M hown hK hP 0 rfl rfl 2 (by decide) (hts _ fl_M_7) (fun _ h9 => h9) rfl d_M_spread_144 ?_
                  refine lv_iload_n hx hb d_M_spread_147 rfl (lv_at hl 2 rfl) ?_
                  obtain ⟨hi, hf⟩ := fg_og_some hf
                  refine va_iald hx hb hK hP 1 0 rfl rfl (ix_in hi) d_M_spread_148 ?_
                  obtain ⟨hi, hf⟩ := fg_og_some hf
                  refine va_iald hx hb hK hP 7 0 rfl rfl (ix_in hi) d_M_spread_149 ?_
                  refine lv_if_ne (tgt := 180) hx hb d_M_spread_150 (by decide) (fun hc => ?_) (fun hc => ?_)
                  · rw [if_neg hc] at hf
                    refine lv_iinc (v := x3 + 1) (lv' := [(3, .int (x3 + 1)), (0, .ref (ad 0)), (2, .int x2)]) hx hb d_M_spread_180 hl (k := 2) rfl rfl (by decide) rfl (fun ls hl => ?_)
                    refine lv_goto (tgt := 38) hx hb d_M_spread_183 (by decide) ?_
                    exact ih x2 (x3 + 1) V _ hf _ _ _ hP hD hS (lv_sub hl [1, 2, 0] rfl) hk
                  · rw [if_pos hc] at hf
                    refine lv_aload_n hx hb d_M_spread_153 rfl (lv_at hl 0 rfl) ?_
                    refine va_get (D := (dC, dI)) (ci := 1) (v := .ref (ad 6)) (C := R_M) (T := F_M) (N := 9) hx hb hts i_M hown hK hP 0 rfl rfl 7 (by decide) (hts _ fl_M_26) (fun _ h9 => h9) rfl d_M_spread_154 ?_
                    refine lv_iload_n hx hb d_M_spread_157 rfl (lv_at hl 2 rfl) ?_
                    obtain ⟨hi, hf⟩ := fg_og_some hf
                    refine va_iald hx hb hK hP 6 0 rfl rfl (ix_in hi) d_M_spread_158 ?_
                    refine lv_if_le (tgt := 180) hx hb d_M_spread_159 (by decide) (fun hc => ?_) (fun hc => ?_)
                    · rw [if_pos hc] at hf
                      refine lv_iinc (v := x3 + 1) (lv' := [(3, .int (x3 + 1)), (0, .ref (ad 0)), (2, .int x2)]) hx hb d_M_spread_180 hl (k := 2) rfl rfl (by decide) rfl (fun ls hl => ?_)
                      refine lv_goto (tgt := 38) hx hb d_M_spread_183 (by decide) ?_
                      exact ih x2 (x3 + 1) V _ hf _ _ _ hP hD hS (lv_sub hl [1, 2, 0] rfl) hk
                    · rw [if_neg hc] at hf
                      refine lv_aload_n hx hb d_M_spread_162 rfl (lv_at hl 0 rfl) ?_
                      refine va_get (D := (dC, dI)) (ci := 1) (v := .ref (ad 7)) (C := R_M) (T := F_M) (N := 9) hx hb hts i_M hown hK hP 0 rfl rfl 8 (by decide) (hts _ fl_M_29) (fun _ h9 => h9) rfl d_M_spread_163 ?_
                      refine lv_aload_n hx hb d_M_spread_166 rfl (lv_at hl 0 rfl) ?_
                      refine va_get (D := (dC, dI)) (ci := 1) (v := .ref (ad 1)) (C := R_M) (T := F_M) (N := 9) hx hb hts i_M hown hK hP 0 rfl rfl 2 (by decide) (hts _ fl_M_7) (fun _ h9 => h9) rfl d_M_spread_167 ?_
                      refine lv_iload_n hx hb d_M_spread_170 rfl (lv_at hl 2 rfl) ?_
                      obtain ⟨hi, hf⟩ := fg_og_some hf
                      refine va_iald hx hb hK hP 1 0 rfl rfl (ix_in hi) d_M_spread_171 ?_
                      refine lv_iconst (v := 3) hx hb d_M_spread_172 (by decide) ?_
                      refine lv_iconst (v := 2) hx hb d_M_spread_173 (by decide) ?_
                      refine lv_iload_n hx hb d_M_spread_174 rfl (lv_at hl 2 rfl) ?_
                      refine lv_imul hx hb d_M_spread_175 ?_
                      refine lv_iadd hx hb d_M_spread_176 ?_
                      obtain ⟨hi, hf⟩ := fg_og_some hf
                      refine va_iast hx hb hK hP hD hS 7 0 rfl rfl (ix_in hi) d_M_spread_177 (fun H locs hP hD hS => ?_)
                      have hP : va_P (dC, dI) classes (mW cI cZ ad t n B E C O F L (upd V (B x3.toNatClampNeg).toNatClampNeg (3 + (2 * x3)))) H := hP
                      have hD : va_D A (mW cI cZ ad t n B E C O F L (upd V (B x3.toNatClampNeg).toNatClampNeg (3 + (2 * x3)))) := hD
                      refine lv_iconst (v := 1) hx hb d_M_spread_178 (by decide) ?_
                      refine lv_istore_n (lv' := [(2, .int 1), (0, .ref (ad 0)), (3, .int x3)]) hx hb d_M_spread_179 rfl hl (by decide) rfl (fun ls hl => ?_)
                      refine lv_iinc (v := x3 + 1) (lv' := [(3, .int (x3 + 1)), (2, .int 1), (0, .ref (ad 0))]) hx hb d_M_spread_180 hl (k := 2) rfl rfl (by decide) rfl (fun ls hl => ?_)
                      refine lv_goto (tgt := 38) hx hb d_M_spread_183 (by decide) ?_
                      exact ih 1 (x3 + 1) (upd V (B x3.toNatClampNeg).toNatClampNeg (3 + (2 * x3))) _ hf _ _ _ hP hD hS (lv_sub hl [2, 1, 0] rfl) hk
            · rw [if_neg hc] at hf
              refine lv_aload_n hx hb d_M_spread_98 rfl (lv_at hl 0 rfl) ?_
              refine va_get (D := (dC, dI)) (ci := 1) (v := .ref (ad 7)) (C := R_M) (T := F_M) (N := 9) hx hb hts i_M hown hK hP 0 rfl rfl 8 (by decide) (hts _ fl_M_29) (fun _ h9 => h9) rfl d_M_spread_99 ?_
              refine lv_aload_n hx hb d_M_spread_102 rfl (lv_at hl 0 rfl) ?_
              refine va_get (D := (dC, dI)) (ci := 1) (v := .ref (ad 2)) (C := R_M) (T := F_M) (N := 9) hx hb hts i_M hown hK hP 0 rfl rfl 3 (by decide) (hts _ fl_M_13) (fun _ h9 => h9) rfl d_M_spread_103 ?_
              refine lv_iload_n hx hb d_M_spread_106 rfl (lv_at hl 2 rfl) ?_
              obtain ⟨hi, hf⟩ := fg_og_some hf
              refine va_iald hx hb hK hP 2 0 rfl rfl (ix_in hi) d_M_spread_107 ?_
              refine lv_iconst (v := 2) hx hb d_M_spread_108 (by decide) ?_
              refine lv_iconst (v := 2) hx hb d_M_spread_109 (by decide) ?_
              refine lv_iload_n hx hb d_M_spread_110 rfl (lv_at hl 2 rfl) ?_
              refine lv_imul hx hb d_M_spread_111 ?_
              refine lv_iadd hx hb d_M_spread_112 ?_
              obtain ⟨hi, hf⟩ := fg_og_some hf
              refine va_iast hx hb hK hP hD hS 7 0 rfl rfl (ix_in hi) d_M_spread_113 (fun H locs hP hD hS => ?_)
              have hP : va_P (dC, dI) classes (mW cI cZ ad t n B E C O F L (upd V (E x3.toNatClampNeg).toNatClampNeg (2 + (2 * x3)))) H := hP
              have hD : va_D A (mW cI cZ ad t n B E C O F L (upd V (E x3.toNatClampNeg).toNatClampNeg (2 + (2 * x3)))) := hD
              refine lv_iconst (v := 1) hx hb d_M_spread_114 (by decide) ?_
              refine lv_istore_n (lv' := [(2, .int 1), (0, .ref (ad 0)), (3, .int x3)]) hx hb d_M_spread_115 rfl hl (by decide) rfl (fun ls hl => ?_)
              refine lv_aload_n hx hb d_M_spread_116 rfl (lv_at hl 1 rfl) ?_
              refine va_get (D := (dC, dI)) (ci := 1) (v := .ref (ad 4)) (C := R_M) (T := F_M) (N := 9) hx hb hts i_M hown hK hP 0 rfl rfl 5 (by decide) (hts _ fl_M_19) (fun _ h9 => h9) rfl d_M_spread_117 ?_
              refine lv_iload_n hx hb d_M_spread_120 rfl (lv_at hl 2 rfl) ?_
              obtain ⟨hi, hf⟩ := fg_og_some hf
              refine va_zald hx hb hK hP 4 1 rfl rfl (ix_in hi) d_M_spread_121 ?_
              refine lv_if_eq (tgt := 180) hx hb d_M_spread_122 (by decide) (fun hc => ?_) (fun hc => ?_)
              · rw [if_pos hc] at hf
                refine lv_iinc (v := x3 + 1) (lv' := [(3, .int (x3 + 1)), (2, .int 1), (0, .ref (ad 0))]) hx hb d_M_spread_180 hl (k := 2) rfl rfl (by decide) rfl (fun ls hl => ?_)
                refine lv_goto (tgt := 38) hx hb d_M_spread_183 (by decide) ?_
                exact ih 1 (x3 + 1) (upd V (E x3.toNatClampNeg).toNatClampNeg (2 + (2 * x3))) _ hf _ _ _ hP hD hS (lv_sub hl [2, 1, 0] rfl) hk
              · rw [if_neg hc] at hf
                refine lv_aload_n hx hb d_M_spread_125 rfl (lv_at hl 1 rfl) ?_
                refine va_get (D := (dC, dI)) (ci := 1) (v := .ref (ad 7)) (C := R_M) (T := F_M) (N := 9) hx hb hts i_M hown hK hP 0 rfl rfl 8 (by decide) (hts _ fl_M_29) (fun _ h9 => h9) rfl d_M_spread_126 ?_
                refine lv_aload_n hx hb d_M_spread_129 rfl (lv_at hl 1 rfl) ?_
                refine va_get (D := (dC, dI)) (ci := 1) (v := .ref (ad 2)) (C := R_M) (T := F_M) (N := 9) hx hb hts i_M hown hK hP 0 rfl rfl 3 (by decide) (hts _ fl_M_13) (fun _ h9 => h9) rfl d_M_spread_130 ?_
                refine lv_iload_n hx hb d_M_spread_133 rfl (lv_at hl 2 rfl) ?_
                obtain ⟨hi, hf⟩ := fg_og_some hf
                refine va_iald hx hb hK hP 2 0 rfl rfl (ix_in hi) d_M_spread_134 ?_
                obtain ⟨hi, hf⟩ := fg_og_some hf
                refine va_iald hx hb hK hP 7 0 rfl rfl (ix_in hi) d_M_spread_135 ?_
                refine lv_if_le (tgt := 180) hx hb d_M_spread_136 (by decide) (fun hc => ?_) (fun hc => ?_)
                · rw [if_pos hc] at hf
                  refine lv_iinc (v := x3 + 1) (lv' := [(3, .int (x3 + 1)), (2, .int 1), (0, .ref (ad 0))]) hx hb d_M_spread_180 hl (k := 2) rfl rfl (by decide) rfl (fun ls hl => ?_)
                  refine lv_goto (tgt := 38) hx hb d_M_spread_183 (by decide) ?_
                  exact ih 1 (x3 + 1) (upd V (E x3.toNatClampNeg).toNatClampNeg (2 + (2 * x3))) _ hf _ _ _ hP hD hS (lv_sub hl [2, 1, 0] rfl) hk
                · rw [if_neg hc] at hf
                  refine lv_aload_n hx hb d_M_spread_139 rfl (lv_at hl 1 rfl) ?_
                  refine va_get (D := (dC, dI)) (ci := 1) (v := .ref (ad 7)) (C := R_M) (T := F_M) (N := 9) hx hb hts i_M hown hK hP 0 rfl rfl 8 (by decide) (hts _ fl_M_29) (fun _ h9 => h9) rfl d_M_spread_140 ?_
                  refine lv_aload_n hx hb d_M_spread_143 rfl (lv_at hl 1 rfl) ?_
                  refine va_get (D := (dC, dI)) (ci := 1) (v := .ref (ad 1)) (C := R_M) (T := F_M) (N := 9) hx hb hts i_M hown hK hP 0 rfl rfl 2 (by decide) (hts _ fl_M_7) (fun _ h9 => h9) rfl d_M_spread_144 ?_
                  refine lv_iload_n hx hb d_M_spread_147 rfl (lv_at hl 2 rfl) ?_
                  obtain ⟨hi, hf⟩ := fg_og_some hf
                  refine va_iald hx hb hK hP 1 0 rfl rfl (ix_in hi) d_M_spread_148 ?_
                  obtain ⟨hi, hf⟩ := fg_og_some hf
                  refine va_iald hx hb hK hP 7 0 rfl rfl (ix_in hi) d_M_spread_149 ?_
                  refine lv_if_ne (tgt := 180) hx hb d_M_spread_150 (by decide) (fun hc => ?_) (fun hc => ?_)
                  · rw [if_neg hc] at hf
                    refine lv_iinc (v := x3 + 1) (lv' := [(3, .int (x3 + 1)), (2, .int 1), (0, .ref (ad 0))]) hx hb d_M_spread_180 hl (k := 2) rfl rfl (by decide) rfl (fun ls hl => ?_)
                    refine lv_goto (tgt := 38) hx hb d_M_spread_183 (by decide) ?_
                    exact ih 1 (x3 + 1) (upd V (E x3.toNatClampNeg).toNatClampNeg (2 + (2 * x3))) _ hf _ _ _ hP hD hS (lv_sub hl [2, 1, 0] rfl) hk
                  · rw [if_pos hc] at hf
                    refine lv_aload_n hx hb d_M_spread_153 rfl (lv_at hl 1 rfl) ?_
                    refine va_get (D := (dC, dI)) (ci := 1) (v := .ref (ad 6)) (C := R_M) (T := F_M) (N := 9) hx hb hts i_M hown hK hP 0 rfl rfl 7 (by decide) (hts _ fl_M_26) (fun _ h9 => h9) rfl d_M_spread_154 ?_
                    refine lv_iload_n hx hb d_M_spread_157 rfl (lv_at hl 2 rfl) ?_
                    obtain ⟨hi, hf⟩ := fg_og_some hf
                    refine va_iald hx hb hK hP 6 0 rfl rfl (ix_in hi) d_M_spread_158 ?_
                    refine lv_if_le (tgt := 180) hx hb d_M_spread_159 (by decide) (fun hc => ?_) (fun hc => ?_)
                    · rw [if_pos hc] at hf
                      refine lv_iinc (v := x3 + 1) (lv' := [(3, .int (x3 + 1)), (2, .int 1), (0, .ref (ad 0))]) hx hb d_M_spread_180 hl (k := 2) rfl rfl (by decide) rfl (fun ls hl => ?_)
                      refine lv_goto (tgt := 38) hx hb d_M_spread_183 (by decide) ?_
                      exact ih 1 (x3 + 1) (upd V (E x3.toNatClampNeg).toNatClampNeg (2 + (2 * x3))) _ hf _ _ _ hP hD hS (lv_sub hl [2, 1, 0] rfl) hk
                    · rw [if_neg hc] at hf
                      refine lv_aload_n hx hb d_M_spread_162 rfl (lv_at hl 1 rfl) ?_
                      refine va_get (D := (dC, dI)) (ci := 1) (v := .ref (ad 7)) (C := R_M) (T := F_M) (N := 9) hx hb hts i_M hown hK hP 0 rfl rfl 8 (by decide) (hts _ fl_M_29) (fun _ h9 => h9) rfl d_M_spread_163 ?_
                      refine lv_aload_n hx hb d_M_spread_166 rfl (lv_at hl 1 rfl) ?_
                      refine va_get (D := (dC, dI)) (ci := 1) (v := .ref (ad 1)) (C := R_M) (T := F_M) (N := 9) hx hb hts i_M hown hK hP 0 rfl rfl 2 (by decide) (hts _ fl_M_7) (fun _ h9 => h9) rfl d_M_spread_167 ?_
                      refine lv_iload_n hx hb d_M_spread_170 rfl (lv_at hl 2 rfl) ?_
                      obtain ⟨hi, hf⟩ := fg_og_some hf
                      refine va_iald hx hb hK hP 1 0 rfl rfl (ix_in hi) d_M_spread_171 ?_
                      refine lv_iconst (v := 3) hx hb d_M_spread_172 (by decide) ?_
                      refine lv_iconst (v := 2) hx hb d_M_spread_173 (by decide) ?_
                      refine lv_iload_n hx hb d_M_spread_174 rfl (lv_at hl 2 rfl) ?_
                      refine lv_imul hx hb d_M_spread_175 ?_
                      refine lv_iadd hx hb d_M_spread_176 ?_
                      obtain ⟨hi, hf⟩ := fg_og_some hf
                      refine va_iast hx hb hK hP hD hS 7 0 rfl rfl (ix_in hi) d_M_spread_177 (fun H locs hP hD hS => ?_)
                      have hP : va_P (dC, dI) classes (mW cI cZ ad t n B E C O F L (upd (upd V (E x3.toNatClampNeg).toNatClampNeg (2 + (2 * x3))) (B x3.toNatClampNeg).toNatClampNeg (3 + (2 * x3)))) H := hP
                      have hD : va_D A (mW cI cZ ad t n B E C O F L (upd (upd V (E x3.toNatClampNeg).toNatClampNeg (2 + (2 * x3))) (B x3.toNatClampNeg).toNatClampNeg (3 + (2 * x3)))) := hD
                      refine lv_iconst (v := 1) hx hb d_M_spread_178 (by decide) ?_
                      refine lv_istore_n (lv' := [(2, .int 1), (0, .ref (ad 0)), (3, .int x3)]) hx hb d_M_spread_179 rfl hl (by decide) rfl (fun ls hl => ?_)
                      refine lv_iinc (v := x3 + 1) (lv' := [(3, .int (x3 + 1)), (2, .int 1), (0, .ref (ad 0))]) hx hb d_M_spread_180 hl (k := 2) rfl rfl (by decide) rfl (fun ls hl => ?_)
                      refine lv_goto (tgt := 38) hx hb d_M_spread_183 (by decide) ?_
                      exact ih 1 (x3 + 1) (upd (upd V (E x3.toNatClampNeg).toNatClampNeg (2 + (2 * x3))) (B x3.toNatClampNeg).toNatClampNeg (3 + (2 * x3))) _ hf _ _ _ hP hD hS (lv_sub hl [2, 1, 0] rfl) hk
set_option maxHeartbeats 4000000 in
set_option maxRecDepth 100000 in
theorem w_M_spread_30 {p : Program} {l : Launch} {e : Env} {s : State} {m : MethodId} {args : Array Value} {below : List Frame} {meth : Method} {c : Code} {Q : State → Prop} {A : Nat → Prop} {dC : Nat → ClassId} {dI : Nat → Nat → Nat} {cI cZ : ClassId} {ad : Nat → Nat} (hx : p.tables.exec = Jvm.exec) (hb : c.code = b_M_spread) (hml : c.maxLocals = 4) (hown : s.vm.findClass R_M = some m.cls) (hts : ∀ w ∈ gw, w.before args s = true) (hK : va_K (dC, dI) classes (gT cI cZ) s) (hA : ∀ q : Nat, s.heap.size ≤ q → A q) (t : Int32) (n : Int32) (B : fg_A) (E : fg_A) (C : fg_A) (O : fg_A) (F : fg_A) (L : fg_A) :
    ∀ (k : Nat) (x2 : Int32) (V : fg_A) (o : fg_A), f_M_spread_30 n B E C O L k x2 V = some o → ∀ (H : Heap) (locs : List Loc) (ls : Array Slot), va_P (dC, dI) classes (mW cI cZ ad t n B E C O F L V) H → va_D A (mW cI cZ ad t n B E C O F L V) → va_S A s.heap H locs → lv_has ls 4 [(0, .ref (ad 0)), (2, .int x2)] →
    (∀ (H : Heap) (locs : List Loc) (ls : Array Slot), va_P (dC, dI) classes (mW cI cZ ad t n B E C O F L o) H → va_D A (mW cI cZ ad t n B E C O F L o) → va_S A s.heap H locs → lv_has ls 4 [] → W p l e (headSpec w_M_spread rm_M_spread).room s m args below meth c H locs 0 0 Q (F0 m 189 ls [])) → W p l e (headSpec w_M_spread rm_M_spread).room s m args below meth c H locs 0 0 Q (F0 m 30 ls []) := by
  intro k
  induction k with
  | zero =>
    intro x2 V o hf
    exact absurd (show none = some o from hf) (by simp)
  | succ k ih =>
    intro x2 V o hf H locs ls hP hD hS hl hk
    rw [f_M_spread_30] at hf
    refine lv_iload_n hx hb d_M_spread_30 rfl (lv_at hl 1 rfl) ?_
    refine lv_if_eq (tgt := 189) hx hb d_M_spread_31 (by decide) (fun hc => ?_) (fun hc => ?_)
    · rw [if_pos hc] at hf
      cases hf
      exact hk _ _ _ hP hD hS (lv_sub hl [] rfl)
    · rw [if_neg hc] at hf
      refine lv_iconst (v := 0) hx hb d_M_spread_34 (by decide) ?_
      refine lv_istore_n (lv' := [(2, .int 0), (0, .ref (ad 0))]) hx hb d_M_spread_35 rfl hl (by decide) rfl (fun ls hl => ?_)
      refine lv_iconst (v := 0) hx hb d_M_spread_36 (by decide) ?_
      refine lv_istore_n (lv' := [(3, .int 0), (2, .int 0), (0, .ref (ad 0))]) hx hb d_M_spread_37 rfl hl (by decide) rfl (fun ls hl => ?_)
      obtain ⟨o1, hco1, hf⟩ := fg_ob_some hf
      refine w_M_spread_38 hx hb hml hown hts hK hA t n B E C O F L fu 0 0 V o1 hco1 _ _ _ hP hD hS (lv_sub hl [2, 1, 0] rfl) (fun H locs ls hP hD hS hl => ?_)
      refine lv_goto (tgt := 30) hx hb d_M_spread_186 (by decide) ?_
      exact ih o1.1 o1.2 _ hf _ _ _ hP hD hS (lv_sub hl [0, 1] rfl) hk
set_option maxHeartbeats 4000000 in
set_option maxRecDepth 100000 in
theorem c_M_spread (l : Launch) (dC : Nat → ClassId) (dI : Nat → Nat → Nat) (cI cZ : ClassId) (ad : Nat → Nat) (sz : Nat) (t : Int32) (n : Int32) (B : fg_A) (E : fg_A) (C : fg_A) (O : fg_A) (F : fg_A) (L : fg_A) (V : fg_A) (p0 : Int32) (o : fg_A) (hf : f_M_spread n B E C O L V p0 = some o) : Met l y_M_spread w_M_spread rm_M_spread (mW_Pc dC dI cI cZ ad sz t n B E C O F L V [.ref (ad 0), .int p0]) (mW_Qv dC dI cI cZ ad (va_A (mW cI cZ ad t n B E C O F L V) sz) t n B E C O F L o) 0 0 (va_A (mW cI cZ ad t n B E C O F L V) sz) := by
  refine Met.ofW (cc := b_M_spread) (maxL := 4) (ret := none) (by decide) rfl ?_
  intro p e s m args below meth c s₁ Bd hml hv
  obtain ⟨rfl, hsz, hP, hK, hD0⟩ := hv
  have hx := Bd.exec
  have hb := Bd.bytes
  have hr := Bd.returns
  have hts := fun w h => atoms_spec (ws := w_M_spread) Bd.pre w (List.mem_cons_of_mem _ h)
  have hown : s.vm.findClass R_M = some m.cls := findClass_of_methodNamed Bd.named
  have hlocks := Bd.notSynchronized
  subst hsz
  have hD := hD0.self (sz := s.heap.size)
  generalize hAe : va_A (mW cI cZ ad t n B E C O F L V) s.heap.size = A at hD ⊢
  have hA : ∀ q : Nat, s.heap.size ≤ q → A q := fun q h => by rw [← hAe]; exact Or.inr h
  have hS : va_S A s.heap s.heap [] := va_S.rf
  have hl := lv_entry ([.ref (ad 0), .int p0]) (n := 4) (Nat.le_of_ble_eq_true rfl)
  rw [lg_entry_eq]
  generalize (lg_sl ([.ref (ad 0), .int p0]) ++ List.replicate (4 - (lg_sl ([.ref (ad 0), .int p0])).length) Slot.unset).toArray = ls at hl ⊢
  have hl : lv_has ls 4 [(0, .ref (ad 0)), (1, .int p0)] := hl
  have hE : ∀ (pc : Nat) (H : Heap) (locs : List Loc) (ls : Array Slot), va_P (dC, dI) classes (mW cI cZ ad t n B E C O F L o) H → va_D A (mW cI cZ ad t n B E C O F L o) → va_S A s.heap H locs → decode b_M_spread pc = .ok (.return_, 1) → W p l e (headSpec w_M_spread rm_M_spread).room s m ([.ref (ad 0), .int p0] : List Value).toArray below meth c H locs 0 0 (MQ below (mW_Qv dC dI cI cZ ad A t n B E C O F L o) ([.ref (ad 0), .int p0] : List Value).toArray s 0 0 A) (F0 m pc ls []) := fun pc H locs ls hP hD hS hd => W.vret hx hb hr (fun t ht hW => ⟨⟨(), rfl, trivial, by rw [ht]; exact hP, va_K.moved hW.alike hK, hD⟩, hS.F ht⟩) hS.2.2 hd
  unfold f_M_spread at hf
  refine lv_iconst (v := 0) hx hb d_M_spread_0 (by decide) ?_
  refine lv_istore_n (lv' := [(2, .int 0), (0, .ref (ad 0)), (1, .int p0)]) hx hb d_M_spread_1 rfl hl (by decide) rfl (fun ls hl => ?_)
  obtain ⟨o1, hco1, hf⟩ := fg_ob_some hf
  refine w_M_spread_2 hx hb hml hown hts hK hA p0 t n B E C O F L fu 0 V o1 hco1 _ _ _ hP hD hS (lv_sub hl [1, 2, 0] rfl) (fun H locs ls hP hD hS hl => ?_)
  refine lv_aload_n hx hb d_M_spread_21 rfl (lv_at hl 0 rfl) ?_
  refine va_get (D := (dC, dI)) (ci := 1) (v := .ref (ad 7)) (C := R_M) (T := F_M) (N := 9) hx hb hts i_M hown hK hP 0 rfl rfl 8 (by decide) (hts _ fl_M_29) (fun _ h9 => h9) rfl d_M_spread_22 ?_
  refine lv_iload_n hx hb d_M_spread_25 rfl (lv_at hl 1 rfl) ?_
  refine lv_iconst (v := 1) hx hb d_M_spread_26 (by decide) ?_
  obtain ⟨hi, hf⟩ := fg_og_some hf
  refine va_iast hx hb hK hP hD hS 7 0 rfl rfl (ix_in hi) d_M_spread_27 (fun H locs hP hD hS => ?_)
  have hP : va_P (dC, dI) classes (mW cI cZ ad t n B E C O F L (upd o1 p0.toNatClampNeg 1)) H := hP
  have hD : va_D A (mW cI cZ ad t n B E C O F L (upd o1 p0.toNatClampNeg 1)) := hD
  refine lv_iconst (v := 1) hx hb d_M_spread_28 (by decide) ?_
  refine lv_istore_n (lv' := [(2, .int 1), (0, .ref (ad 0)), (1, .int p0)]) hx hb d_M_spread_29 rfl hl (by decide) rfl (fun ls hl => ?_)
  obtain ⟨o2, hco2, hf⟩ := fg_ob_some hf
  refine w_M_spread_30 hx hb hml hown hts hK hA t n B E C O F L fu 1 (upd o1 p0.toNatClampNeg 1) o2 hco2 _ _ _ hP hD hS (lv_sub hl [1, 0] rfl) (fun H locs ls hP hD hS hl => ?_)
  cases hf
  exact hE _ _ _ _ hP hD hS d_M_spread_189
