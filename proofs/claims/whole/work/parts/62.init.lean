/-! The two constructors. -/
abbrev fg_z : fg_A := fun _ => 0
theorem im_obj : .instanceMethod objectInit ∈ gw := gw_mem (i := 38) rfl rfl
theorem cd_obj : .code objectInit ⟨#[0xb1]⟩ 1 none ∈ gw := gw_mem (i := 39) rfl rfl
theorem ar_int : .arrayClass .int ∈ gw := gw_mem (i := 65) rfl rfl
theorem ar_boolean : .arrayClass .boolean ∈ gw := gw_mem (i := 66) rfl rfl
theorem ar_long : .arrayClass .long ∈ gw := gw_mem (i := 438) rfl rfl
section FGN
variable {p : Program} {l : Launch} {e : Env} {R : Room} {s : State} {m : MethodId} {args : Array Value} {below : List Frame} {meth : Method} {c : Code} {H H0 : Heap} {locs : List Loc} {cells slots : Nat} {Q : State → Prop} {rest : List Value} {pc : Nat} {ls : Array Slot} {A : Nat → Prop} {D : va_G} {cI cZ : ClassId} {cl : List vw_C} {ws : va_W} {cc : ByteArray}
theorem fg_newI (hx : p.tables.exec = Jvm.exec) (hb : c.code = cc) (hts : ∀ w ∈ gw, w.before args s = true) (hK : va_K D cl (gT cI cZ) s) (hP : va_P D cl ws H) (hD : va_D A ws) (hS : va_S A H0 H locs) (hA : ∀ q, H0.size ≤ q → A q) {n : Int32} {N : Nat} (hn : ¬ n < 0) (hN : n.toNatClampNeg = N) (hby : N * componentBytes .int ≤ 536870912) (hcells : cells + 1 ≤ R.cells) (hslots : slots + N ≤ R.slots) (hdg : decode cc pc = .ok (.newarray .int, 2))
    (kk : ∀ (q : Nat) (H1 : Heap), va_P D cl (ws ++ [(q, .inl (cI, N, .inl fg_z))]) H1 → va_D A (ws ++ [(q, .inl (cI, N, .inl fg_z))]) → va_S A H0 H1 locs → W p l e R s m args below meth c H1 locs (cells + 1) (slots + N) Q (F0 m (pc + 2) ls (.ref q :: rest))) : W p l e R s m args below meth c H locs cells slots Q (F0 m pc ls (.int n :: rest)) := by
  refine va_newa (atype := .int) (ty := .int) (a0 := (N, .inl fg_z)) hx hb (hts _ ar_int) rfl hK hP hD hS hA (fun cA => rfl) hn hN hby hcells hslots hdg (fun q cA H1 hK1 hP hD hS => ?_)
  have h1 := va_nm_int (hK1.2 2 (cA, .int) rfl).2
  rw [va_nm_int (hK1.2 0 (cI, .int) rfl).2] at h1
  cases h1
  exact kk q H1 hP hD hS
theorem fg_newZ (hx : p.tables.exec = Jvm.exec) (hb : c.code = cc) (hts : ∀ w ∈ gw, w.before args s = true) (hK : va_K D cl (gT cI cZ) s) (hP : va_P D cl ws H) (hD : va_D A ws) (hS : va_S A H0 H locs) (hA : ∀ q, H0.size ≤ q → A q) {n : Int32} {N : Nat} (hn : ¬ n < 0) (hN : n.toNatClampNeg = N) (hby : N * componentBytes .boolean ≤ 536870912) (hcells : cells + 1 ≤ R.cells) (hslots : slots + N ≤ R.slots) (hdg : decode cc pc = .ok (.newarray .boolean, 2))
    (kk : ∀ (q : Nat) (H1 : Heap), va_P D cl (ws ++ [(q, .inl (cZ, N, .inl fg_z))]) H1 → va_D A (ws ++ [(q, .inl (cZ, N, .inl fg_z))]) → va_S A H0 H1 locs → W p l e R s m args below meth c H1 locs (cells + 1) (slots + N) Q (F0 m (pc + 2) ls (.ref q :: rest))) : W p l e R s m args below meth c H locs cells slots Q (F0 m pc ls (.int n :: rest)) := by
  refine va_newa (atype := .boolean) (ty := .boolean) (a0 := (N, .inl fg_z)) hx hb (hts _ ar_boolean) rfl hK hP hD hS hA (fun cA => rfl) hn hN hby hcells hslots hdg (fun q cA H1 hK1 hP hD hS => ?_)
  have h1 := va_nm_boolean (hK1.2 2 (cA, .boolean) rfl).2
  rw [va_nm_boolean (hK1.2 1 (cZ, .boolean) rfl).2] at h1
  cases h1
  exact kk q H1 hP hD hS
end FGN
abbrev rm_G_init : Room := { frames := 1, cells := 7, slots := 506, locals := 12 }
def gW_iPc (dC : Nat → ClassId) (dI : Nat → Nat → Nat) (cI cZ : ClassId) (h0 sz : Nat) : Array Value → State → Prop := va_Pc [.ref h0] (fun U => U.heap.size = sz ∧ va_P (dC, dI) classes [(h0, .inr (0, [.null, .null, .null, .null, .int 0, .null, .null, .null]))] U.heap ∧ va_K (dC, dI) classes (gT cI cZ) U ∧ va_D (fun _ => True) [(h0, .inr (0, [.null, .null, .null, .null, .int 0, .null, .null, .null]))])
set_option maxHeartbeats 4000000 in
set_option maxRecDepth 100000 in
theorem c_G_init (l : Launch) (dC : Nat → ClassId) (dI : Nat → Nat → Nat) (cI cZ : ClassId) (h0 sz : Nat) : Met l y_G_init w_G_init rm_G_init (gW_iPc dC dI cI cZ h0 sz) (va_Qv (fun ad : Nat → Nat => ad 0 = h0) (fun ad T => gW_B dC dI cI cZ ad (va_A [(h0, .inr (0, [.null, .null, .null, .null, .int 0, .null, .null, .null]))] sz) fg_z fg_z fg_z fg_z 0 fg_z fg_z fg_z () T) (va_A [(h0, .inr (0, [.null, .null, .null, .null, .int 0, .null, .null, .null]))] sz)) 7 506 (va_A [(h0, .inr (0, [.null, .null, .null, .null, .int 0, .null, .null, .null]))] sz) := by
  refine Met.ofW (cc := b_G_init) (maxL := 1) (ret := none) (by decide) rfl ?_
  intro p e s m args below meth c s₁ Bd hml hv
  obtain ⟨rfl, hsz, hP, hK, hD0⟩ := hv
  have hx := Bd.exec
  have hb := Bd.bytes
  have hr := Bd.returns
  have hts := fun w h => atoms_spec (ws := w_G_init) Bd.pre w (List.mem_cons_of_mem _ h)
  have hown : s.vm.findClass R_G = some m.cls := findClass_of_methodNamed Bd.named
  have hlocks := Bd.notSynchronized
  have hin : meth.name = "<init>" := (name_of_methodNamed Bd.named Bd.method).1
  subst hsz
  have hD := hD0.self (sz := s.heap.size)
  generalize hAe : va_A [(h0, .inr (0, [.null, .null, .null, .null, .int 0, .null, .null, .null]))] s.heap.size = A at hD ⊢
  have hA : ∀ q : Nat, s.heap.size ≤ q → A q := fun q h => by rw [← hAe]; exact Or.inr h
  have hS : va_S A s.heap s.heap [] := va_S.rf
  have hl := lv_entry ([.ref h0]) (n := 1) (Nat.le_of_ble_eq_true rfl)
  rw [lg_entry_eq]
  generalize (lg_sl ([.ref h0]) ++ List.replicate (1 - (lg_sl ([.ref h0])).length) Slot.unset).toArray = ls at hl ⊢
  have hl : lv_has ls 1 [(0, .ref h0)] := hl
  refine lv_aload_n hx hb d_G_init_0 rfl (lv_at hl 0 rfl) ?_
  refine W.objInit hx hb hown (hts _ ml_G_3) (hts _ im_obj) (hts _ cd_obj) rfl (by rw [hml]; exact hl.1) rfl d_G_init_1 (Nat.le_of_ble_eq_true rfl) (Nat.le_of_ble_eq_true rfl) ?_
  refine W.eq (g2 := F0 m 4 ls []) rfl ?_
  refine lv_aload_n hx hb d_G_init_4 rfl (lv_at hl 0 rfl) ?_
  refine lv_bipush (v := 90) hx hb d_G_init_5 (by decide) ?_
  refine fg_newI (n := 90) (N := 90) hx hb hts hK hP hD hS hA (by decide) (by decide) (by decide) (Nat.le_of_ble_eq_true rfl) (Nat.le_of_ble_eq_true rfl) d_G_init_7 (fun q1 H hP hD hS => ?_)
  have hP : va_P (dC, dI) classes [(h0, .inr (0, [.null, .null, .null, .null, .int 0, .null, .null, .null])), (q1, .inl (cI, 90, .inl fg_z))] H := hP
  have hD : va_D A [(h0, .inr (0, [.null, .null, .null, .null, .int 0, .null, .null, .null])), (q1, .inl (cI, 90, .inl fg_z))] := hD
  refine W.widen (k := 1) (n := 90) (Nat.le_of_ble_eq_true rfl) (Nat.le_of_ble_eq_true rfl) ?_
  refine va_putF (D := (dC, dI)) (ci := 0) (v := .ref q1) (ty := .array .int) (C := R_G) (T := F_G) (N := 8) hx hb hts i_G t_G t_G_ok n_G hown hK hP hD hS 0 rfl rfl 0 (by decide) (hts _ fl_G_9) (fun _ h9 => h9) rfl hin rfl (by decide +kernel) rfl rfl (Nat.le_of_ble_eq_true rfl) d_G_init_9 (fun H locs hP hD hS => ?_)
  have hP : va_P (dC, dI) classes [(h0, .inr (0, [.ref q1, .null, .null, .null, .int 0, .null, .null, .null])), (q1, .inl (cI, 90, .inl fg_z))] H := hP
  have hD : va_D A [(h0, .inr (0, [.ref q1, .null, .null, .null, .int 0, .null, .null, .null])), (q1, .inl (cI, 90, .inl fg_z))] := hD
  refine lv_aload_n hx hb d_G_init_12 rfl (lv_at hl 0 rfl) ?_
  refine lv_bipush (v := 90) hx hb d_G_init_13 (by decide) ?_
  refine fg_newI (n := 90) (N := 90) hx hb hts hK hP hD hS hA (by decide) (by decide) (by decide) (Nat.le_of_ble_eq_true rfl) (Nat.le_of_ble_eq_true rfl) d_G_init_15 (fun q2 H hP hD hS => ?_)
  have hP : va_P (dC, dI) classes [(h0, .inr (0, [.ref q1, .null, .null, .null, .int 0, .null, .null, .null])), (q1, .inl (cI, 90, .inl fg_z)), (q2, .inl (cI, 90, .inl fg_z))] H := hP
  have hD : va_D A [(h0, .inr (0, [.ref q1, .null, .null, .null, .int 0, .null, .null, .null])), (q1, .inl (cI, 90, .inl fg_z)), (q2, .inl (cI, 90, .inl fg_z))] := hD
  refine W.widen (k := 2) (n := 180) (Nat.le_of_ble_eq_true rfl) (Nat.le_of_ble_eq_true rfl) ?_
  refine va_putF (D := (dC, dI)) (ci := 0) (v := .ref q2) (ty := .array .int) (C := R_G) (T := F_G) (N := 8) hx hb hts i_G t_G t_G_ok n_G hown hK hP hD hS 0 rfl rfl 1 (by decide) (hts _ fl_G_13) (fun _ h9 => h9) rfl hin rfl (by decide +kernel) rfl rfl (Nat.le_of_ble_eq_true rfl) d_G_init_17 (fun H locs hP hD hS => ?_)
  have hP : va_P (dC, dI) classes [(h0, .inr (0, [.ref q1, .ref q2, .null, .null, .int 0, .null, .null, .null])), (q1, .inl (cI, 90, .inl fg_z)), (q2, .inl (cI, 90, .inl fg_z))] H := hP
  have hD : va_D A [(h0, .inr (0, [.ref q1, .ref q2, .null, .null, .int 0, .null, .null, .null])), (q1, .inl (cI, 90, .inl fg_z)), (q2, .inl (cI, 90, .inl fg_z))] := hD
  refine lv_aload_n hx hb d_G_init_20 rfl (lv_at hl 0 rfl) ?_
  refine lv_bipush (v := 90) hx hb d_G_init_21 (by decide) ?_
  refine fg_newI (n := 90) (N := 90) hx hb hts hK hP hD hS hA (by decide) (by decide) (by decide) (Nat.le_of_ble_eq_true rfl) (Nat.le_of_ble_eq_true rfl) d_G_init_23 (fun q3 H hP hD hS => ?_)
  have hP : va_P (dC, dI) classes [(h0, .inr (0, [.ref q1, .ref q2, .null, .null, .int 0, .null, .null, .null])), (q1, .inl (cI, 90, .inl fg_z)), (q2, .inl (cI, 90, .inl fg_z)), (q3, .inl (cI, 90, .inl fg_z))] H := hP
  have hD : va_D A [(h0, .inr (0, [.ref q1, .ref q2, .null, .null, .int 0, .null, .null, .null])), (q1, .inl (cI, 90, .inl fg_z)), (q2, .inl (cI, 90, .inl fg_z)), (q3, .inl (cI, 90, .inl fg_z))] := hD
  refine W.widen (k := 3) (n := 270) (Nat.le_of_ble_eq_true rfl) (Nat.le_of_ble_eq_true rfl) ?_
  refine va_putF (D := (dC, dI)) (ci := 0) (v := .ref q3) (ty := .array .int) (C := R_G) (T := F_G) (N := 8) hx hb hts i_G t_G t_G_ok n_G hown hK hP hD hS 0 rfl rfl 2 (by decide) (hts _ fl_G_16) (fun _ h9 => h9) rfl hin rfl (by decide +kernel) rfl rfl (Nat.le_of_ble_eq_true rfl) d_G_init_25 (fun H locs hP hD hS => ?_)
  have hP : va_P (dC, dI) classes [(h0, .inr (0, [.ref q1, .ref q2, .ref q3, .null, .int 0, .null, .null, .null])), (q1, .inl (cI, 90, .inl fg_z)), (q2, .inl (cI, 90, .inl fg_z)), (q3, .inl (cI, 90, .inl fg_z))] H := hP
  have hD : va_D A [(h0, .inr (0, [.ref q1, .ref q2, .ref q3, .null, .int 0, .null, .null, .null])), (q1, .inl (cI, 90, .inl fg_z)), (q2, .inl (cI, 90, .inl fg_z)), (q3, .inl (cI, 90, .inl fg_z))] := hD
  refine lv_aload_n hx hb d_G_init_28 rfl (lv_at hl 0 rfl) ?_
  refine lv_bipush (v := 90) hx hb d_G_init_29 (by decide) ?_
  refine fg_newZ (n := 90) (N := 90) hx hb hts hK hP hD hS hA (by decide) (by decide) (by decide) (Nat.le_of_ble_eq_true rfl) (Nat.le_of_ble_eq_true rfl) d_G_init_31 (fun q4 H hP hD hS => ?_)
  have hP : va_P (dC, dI) classes [(h0, .inr (0, [.ref q1, .ref q2, .ref q3, .null, .int 0, .null, .null, .null])), (q1, .inl (cI, 90, .inl fg_z)), (q2, .inl (cI, 90, .inl fg_z)), (q3, .inl (cI, 90, .inl fg_z)), (q4, .inl (cZ, 90, .inl fg_z))] H := hP
  have hD : va_D A [(h0, .inr (0, [.ref q1, .ref q2, .ref q3, .null, .int 0, .null, .null, .null])), (q1, .inl (cI, 90, .inl fg_z)), (q2, .inl (cI, 90, .inl fg_z)), (q3, .inl (cI, 90, .inl fg_z)), (q4, .inl (cZ, 90, .inl fg_z))] := hD
  refine W.widen (k := 4) (n := 360) (Nat.le_of_ble_eq_true rfl) (Nat.le_of_ble_eq_true rfl) ?_
  refine va_putF (D := (dC, dI)) (ci := 0) (v := .ref q4) (ty := .array .boolean) (C := R_G) (T := F_G) (N := 8) hx hb hts i_G t_G t_G_ok n_G hown hK hP hD hS 0 rfl rfl 3 (by decide) (hts _ fl_G_19) (fun _ h9 => h9) rfl hin rfl (by decide +kernel) rfl rfl (Nat.le_of_ble_eq_true rfl) d_G_init_33 (fun H locs hP hD hS => ?_)
  have hP : va_P (dC, dI) classes [(h0, .inr (0, [.ref q1, .ref q2, .ref q3, .ref q4, .int 0, .null, .null, .null])), (q1, .inl (cI, 90, .inl fg_z)), (q2, .inl (cI, 90, .inl fg_z)), (q3, .inl (cI, 90, .inl fg_z)), (q4, .inl (cZ, 90, .inl fg_z))] H := hP
  have hD : va_D A [(h0, .inr (0, [.ref q1, .ref q2, .ref q3, .ref q4, .int 0, .null, .null, .null])), (q1, .inl (cI, 90, .inl fg_z)), (q2, .inl (cI, 90, .inl fg_z)), (q3, .inl (cI, 90, .inl fg_z)), (q4, .inl (cZ, 90, .inl fg_z))] := hD
  refine lv_aload_n hx hb d_G_init_36 rfl (lv_at hl 0 rfl) ?_
  refine lv_iconst (v := 0) hx hb d_G_init_37 (by decide) ?_
  refine va_put (D := (dC, dI)) (ci := 0) (v := .int 0) (ty := .int) (C := R_G) (T := F_G) (N := 8) hx hb hts i_G t_G t_G_ok n_G hown hK hP hD hS 0 rfl rfl 4 (by decide) (hts _ fl_G_23) (fun _ h9 => h9) rfl (by decide +kernel) rfl rfl (Nat.le_of_ble_eq_true rfl) d_G_init_38 (fun H locs hP hD hS => ?_)
  have hP : va_P (dC, dI) classes [(h0, .inr (0, [.ref q1, .ref q2, .ref q3, .ref q4, .int 0, .null, .null, .null])), (q1, .inl (cI, 90, .inl fg_z)), (q2, .inl (cI, 90, .inl fg_z)), (q3, .inl (cI, 90, .inl fg_z)), (q4, .inl (cZ, 90, .inl fg_z))] H := hP
  have hD : va_D A [(h0, .inr (0, [.ref q1, .ref q2, .ref q3, .ref q4, .int 0, .null, .null, .null])), (q1, .inl (cI, 90, .inl fg_z)), (q2, .inl (cI, 90, .inl fg_z)), (q3, .inl (cI, 90, .inl fg_z)), (q4, .inl (cZ, 90, .inl fg_z))] := hD
  refine lv_aload_n hx hb d_G_init_41 rfl (lv_at hl 0 rfl) ?_
  refine lv_bipush (v := 28) hx hb d_G_init_42 (by decide) ?_
  refine fg_newI (n := 28) (N := 28) hx hb hts hK hP hD hS hA (by decide) (by decide) (by decide) (Nat.le_of_ble_eq_true rfl) (Nat.le_of_ble_eq_true rfl) d_G_init_44 (fun q5 H hP hD hS => ?_)
  have hP : va_P (dC, dI) classes [(h0, .inr (0, [.ref q1, .ref q2, .ref q3, .ref q4, .int 0, .null, .null, .null])), (q1, .inl (cI, 90, .inl fg_z)), (q2, .inl (cI, 90, .inl fg_z)), (q3, .inl (cI, 90, .inl fg_z)), (q4, .inl (cZ, 90, .inl fg_z)), (q5, .inl (cI, 28, .inl fg_z))] H := hP
  have hD : va_D A [(h0, .inr (0, [.ref q1, .ref q2, .ref q3, .ref q4, .int 0, .null, .null, .null])), (q1, .inl (cI, 90, .inl fg_z)), (q2, .inl (cI, 90, .inl fg_z)), (q3, .inl (cI, 90, .inl fg_z)), (q4, .inl (cZ, 90, .inl fg_z)), (q5, .inl (cI, 28, .inl fg_z))] := hD
  refine W.widen (k := 5) (n := 388) (Nat.le_of_ble_eq_true rfl) (Nat.le_of_ble_eq_true rfl) ?_
  refine va_putF (D := (dC, dI)) (ci := 0) (v := .ref q5) (ty := .array .int) (C := R_G) (T := F_G) (N := 8) hx hb hts i_G t_G t_G_ok n_G hown hK hP hD hS 0 rfl rfl 5 (by decide) (hts _ fl_G_27) (fun _ h9 => h9) rfl hin rfl (by decide +kernel) rfl rfl (Nat.le_of_ble_eq_true rfl) d_G_init_46 (fun H locs hP hD hS => ?_)
  have hP : va_P (dC, dI) classes [(h0, .inr (0, [.ref q1, .ref q2, .ref q3, .ref q4, .int 0, .ref q5, .null, .null])), (q1, .inl (cI, 90, .inl fg_z)), (q2, .inl (cI, 90, .inl fg_z)), (q3, .inl (cI, 90, .inl fg_z)), (q4, .inl (cZ, 90, .inl fg_z)), (q5, .inl (cI, 28, .inl fg_z))] H := hP
  have hD : va_D A [(h0, .inr (0, [.ref q1, .ref q2, .ref q3, .ref q4, .int 0, .ref q5, .null, .null])), (q1, .inl (cI, 90, .inl fg_z)), (q2, .inl (cI, 90, .inl fg_z)), (q3, .inl (cI, 90, .inl fg_z)), (q4, .inl (cZ, 90, .inl fg_z)), (q5, .inl (cI, 28, .inl fg_z))] := hD
  refine lv_aload_n hx hb d_G_init_49 rfl (lv_at hl 0 rfl) ?_
  refine lv_bipush (v := 90) hx hb d_G_init_50 (by decide) ?_
  refine fg_newI (n := 90) (N := 90) hx hb hts hK hP hD hS hA (by decide) (by decide) (by decide) (Nat.le_of_ble_eq_true rfl) (Nat.le_of_ble_eq_true rfl) d_G_init_52 (fun q6 H hP hD hS => ?_)
  have hP : va_P (dC, dI) classes [(h0, .inr (0, [.ref q1, .ref q2, .ref q3, .ref q4, .int 0, .ref q5, .null, .null])), (q1, .inl (cI, 90, .inl fg_z)), (q2, .inl (cI, 90, .inl fg_z)), (q3, .inl (cI, 90, .inl fg_z)), (q4, .inl (cZ, 90, .inl fg_z)), (q5, .inl (cI, 28, .inl fg_z)), (q6, .inl (cI, 90, .inl fg_z))] H := hP
  have hD : va_D A [(h0, .inr (0, [.ref q1, .ref q2, .ref q3, .ref q4, .int 0, .ref q5, .null, .null])), (q1, .inl (cI, 90, .inl fg_z)), (q2, .inl (cI, 90, .inl fg_z)), (q3, .inl (cI, 90, .inl fg_z)), (q4, .inl (cZ, 90, .inl fg_z)), (q5, .inl (cI, 28, .inl fg_z)), (q6, .inl (cI, 90, .inl fg_z))] := hD
  refine W.widen (k := 6) (n := 478) (Nat.le_of_ble_eq_true rfl) (Nat.le_of_ble_eq_true rfl) ?_
  refine va_putF (D := (dC, dI)) (ci := 0) (v := .ref q6) (ty := .array .int) (C := R_G) (T := F_G) (N := 8) hx hb hts i_G t_G t_G_ok n_G hown hK hP hD hS 0 rfl rfl 6 (by decide) (hts _ fl_G_30) (fun _ h9 => h9) rfl hin rfl (by decide +kernel) rfl rfl (Nat.le_of_ble_eq_true rfl) d_G_init_54 (fun H locs hP hD hS => ?_)
  have hP : va_P (dC, dI) classes [(h0, .inr (0, [.ref q1, .ref q2, .ref q3, .ref q4, .int 0, .ref q5, .ref q6, .null])), (q1, .inl (cI, 90, .inl fg_z)), (q2, .inl (cI, 90, .inl fg_z)), (q3, .inl (cI, 90, .inl fg_z)), (q4, .inl (cZ, 90, .inl fg_z)), (q5, .inl (cI, 28, .inl fg_z)), (q6, .inl (cI, 90, .inl fg_z))] H := hP
  have hD : va_D A [(h0, .inr (0, [.ref q1, .ref q2, .ref q3, .ref q4, .int 0, .ref q5, .ref q6, .null])), (q1, .inl (cI, 90, .inl fg_z)), (q2, .inl (cI, 90, .inl fg_z)), (q3, .inl (cI, 90, .inl fg_z)), (q4, .inl (cZ, 90, .inl fg_z)), (q5, .inl (cI, 28, .inl fg_z)), (q6, .inl (cI, 90, .inl fg_z))] := hD
  refine lv_aload_n hx hb d_G_init_57 rfl (lv_at hl 0 rfl) ?_
  refine lv_bipush (v := 28) hx hb d_G_init_58 (by decide) ?_
  refine fg_newI (n := 28) (N := 28) hx hb hts hK hP hD hS hA (by decide) (by decide) (by decide) (Nat.le_of_ble_eq_true rfl) (Nat.le_of_ble_eq_true rfl) d_G_init_60 (fun q7 H hP hD hS => ?_)
  have hP : va_P (dC, dI) classes [(h0, .inr (0, [.ref q1, .ref q2, .ref q3, .ref q4, .int 0, .ref q5, .ref q6, .null])), (q1, .inl (cI, 90, .inl fg_z)), (q2, .inl (cI, 90, .inl fg_z)), (q3, .inl (cI, 90, .inl fg_z)), (q4, .inl (cZ, 90, .inl fg_z)), (q5, .inl (cI, 28, .inl fg_z)), (q6, .inl (cI, 90, .inl fg_z)), (q7, .inl (cI, 28, .inl fg_z))] H := hP
  have hD : va_D A [(h0, .inr (0, [.ref q1, .ref q2, .ref q3, .ref q4, .int 0, .ref q5, .ref q6, .null])), (q1, .inl (cI, 90, .inl fg_z)), (q2, .inl (cI, 90, .inl fg_z)), (q3, .inl (cI, 90, .inl fg_z)), (q4, .inl (cZ, 90, .inl fg_z)), (q5, .inl (cI, 28, .inl fg_z)), (q6, .inl (cI, 90, .inl fg_z)), (q7, .inl (cI, 28, .inl fg_z))] := hD
  refine W.widen (k := 7) (n := 506) (Nat.le_of_ble_eq_true rfl) (Nat.le_of_ble_eq_true rfl) ?_
  refine va_putF (D := (dC, dI)) (ci := 0) (v := .ref q7) (ty := .array .int) (C := R_G) (T := F_G) (N := 8) hx hb hts i_G t_G t_G_ok n_G hown hK hP hD hS 0 rfl rfl 7 (by decide) (hts _ fl_G_33) (fun _ h9 => h9) rfl hin rfl (by decide +kernel) rfl rfl (Nat.le_of_ble_eq_true rfl) d_G_init_62 (fun H locs hP hD hS => ?_)
  have hP : va_P (dC, dI) classes [(h0, .inr (0, [.ref q1, .ref q2, .ref q3, .ref q4, .int 0, .ref q5, .ref q6, .ref q7])), (q1, .inl (cI, 90, .inl fg_z)), (q2, .inl (cI, 90, .inl fg_z)), (q3, .inl (cI, 90, .inl fg_z)), (q4, .inl (cZ, 90, .inl fg_z)), (q5, .inl (cI, 28, .inl fg_z)), (q6, .inl (cI, 90, .inl fg_z)), (q7, .inl (cI, 28, .inl fg_z))] H := hP
  have hD : va_D A [(h0, .inr (0, [.ref q1, .ref q2, .ref q3, .ref q4, .int 0, .ref q5, .ref q6, .ref q7])), (q1, .inl (cI, 90, .inl fg_z)), (q2, .inl (cI, 90, .inl fg_z)), (q3, .inl (cI, 90, .inl fg_z)), (q4, .inl (cZ, 90, .inl fg_z)), (q5, .inl (cI, 28, .inl fg_z)), (q6, .inl (cI, 90, .inl fg_z)), (q7, .inl (cI, 28, .inl fg_z))] := hD
  refine W.widen (k := 7) (n := 506) (Nat.le_of_ble_eq_true rfl) (Nat.le_of_ble_eq_true rfl) ?_
  exact W.vret hx hb hr (fun t ht hW => ⟨⟨(fun k => match k with | 0 => h0 | 1 => q1 | 2 => q2 | 3 => q3 | 4 => q4 | 5 => q5 | 6 => q6 | _ => q7), rfl, rfl, by rw [ht]; exact hP, va_K.moved hW.alike hK, hD⟩, hS.F ht⟩) hS.2.2 d_G_init_65
abbrev rm_M_init : Room := { frames := 1, cells := 7, slots := 506, locals := 12 }
def mW_iPc (dC : Nat → ClassId) (dI : Nat → Nat → Nat) (cI cZ : ClassId) (h0 sz : Nat) : Array Value → State → Prop := va_Pc [.ref h0] (fun U => U.heap.size = sz ∧ va_P (dC, dI) classes [(h0, .inr (1, [.int 0, .int 0, .null, .null, .null, .null, .null, .null, .null]))] U.heap ∧ va_K (dC, dI) classes (gT cI cZ) U ∧ va_D (fun _ => True) [(h0, .inr (1, [.int 0, .int 0, .null, .null, .null, .null, .null, .null, .null]))])
set_option maxHeartbeats 4000000 in
set_option maxRecDepth 100000 in
theorem c_M_init (l : Launch) (dC : Nat → ClassId) (dI : Nat → Nat → Nat) (cI cZ : ClassId) (h0 sz : Nat) : Met l y_M_init w_M_init rm_M_init (mW_iPc dC dI cI cZ h0 sz) (va_Qv (fun ad : Nat → Nat => ad 0 = h0) (fun ad T => mW_B dC dI cI cZ ad (va_A [(h0, .inr (1, [.int 0, .int 0, .null, .null, .null, .null, .null, .null, .null]))] sz) 0 0 fg_z fg_z fg_z fg_z fg_z fg_z fg_z () T) (va_A [(h0, .inr (1, [.int 0, .int 0, .null, .null, .null, .null, .null, .null, .null]))] sz)) 7 506 (va_A [(h0, .inr (1, [.int 0, .int 0, .null, .null, .null, .null, .null, .null, .null]))] sz) := by
  refine Met.ofW (cc := b_M_init) (maxL := 1) (ret := none) (by decide) rfl ?_
  intro p e s m args below meth c s₁ Bd hml hv
  obtain ⟨rfl, hsz, hP, hK, hD0⟩ := hv
  have hx := Bd.exec
  have hb := Bd.bytes
  have hr := Bd.returns
  have hts := fun w h => atoms_spec (ws := w_M_init) Bd.pre w (List.mem_cons_of_mem _ h)
  have hown : s.vm.findClass R_M = some m.cls := findClass_of_methodNamed Bd.named
  have hlocks := Bd.notSynchronized
  have hin : meth.name = "<init>" := (name_of_methodNamed Bd.named Bd.method).1
  subst hsz
  have hD := hD0.self (sz := s.heap.size)
  generalize hAe : va_A [(h0, .inr (1, [.int 0, .int 0, .null, .null, .null, .null, .null, .null, .null]))] s.heap.size = A at hD ⊢
  have hA : ∀ q : Nat, s.heap.size ≤ q → A q := fun q h => by rw [← hAe]; exact Or.inr h
  have hS : va_S A s.heap s.heap [] := va_S.rf
  have hl := lv_entry ([.ref h0]) (n := 1) (Nat.le_of_ble_eq_true rfl)
  rw [lg_entry_eq]
  generalize (lg_sl ([.ref h0]) ++ List.replicate (1 - (lg_sl ([.ref h0])).length) Slot.unset).toArray = ls at hl ⊢
  have hl : lv_has ls 1 [(0, .ref h0)] := hl
  refine lv_aload_n hx hb d_M_init_0 rfl (lv_at hl 0 rfl) ?_
  refine W.objInit hx hb hown (hts _ ml_M_1) (hts _ im_obj) (hts _ cd_obj) rfl (by rw [hml]; exact hl.1) rfl d_M_init_1 (Nat.le_of_ble_eq_true rfl) (Nat.le_of_ble_eq_true rfl) ?_
  refine W.eq (g2 := F0 m 4 ls []) rfl ?_
  refine lv_aload_n hx hb d_M_init_4 rfl (lv_at hl 0 rfl) ?_
  refine lv_bipush (v := 90) hx hb d_M_init_5 (by decide) ?_
  refine fg_newI (n := 90) (N := 90) hx hb hts hK hP hD hS hA (by decide) (by decide) (by decide) (Nat.le_of_ble_eq_true rfl) (Nat.le_of_ble_eq_true rfl) d_M_init_7 (fun q1 H hP hD hS => ?_)
  have hP : va_P (dC, dI) classes [(h0, .inr (1, [.int 0, .int 0, .null, .null, .null, .null, .null, .null, .null])), (q1, .inl (cI, 90, .inl fg_z))] H := hP
  have hD : va_D A [(h0, .inr (1, [.int 0, .int 0, .null, .null, .null, .null, .null, .null, .null])), (q1, .inl (cI, 90, .inl fg_z))] := hD
  refine W.widen (k := 1) (n := 90) (Nat.le_of_ble_eq_true rfl) (Nat.le_of_ble_eq_true rfl) ?_
  refine va_putF (D := (dC, dI)) (ci := 1) (v := .ref q1) (ty := .array .int) (C := R_M) (T := F_M) (N := 9) hx hb hts i_M t_M t_M_ok n_M hown hK hP hD hS 0 rfl rfl 2 (by decide) (hts _ fl_M_7) (fun _ h9 => h9) rfl hin rfl (by decide +kernel) rfl rfl (Nat.le_of_ble_eq_true rfl) d_M_init_9 (fun H locs hP hD hS => ?_)
  have hP : va_P (dC, dI) classes [(h0, .inr (1, [.int 0, .int 0, .ref q1, .null, .null, .null, .null, .null, .null])), (q1, .inl (cI, 90, .inl fg_z))] H := hP
  have hD : va_D A [(h0, .inr (1, [.int 0, .int 0, .ref q1, .null, .null, .null, .null, .null, .null])), (q1, .inl (cI, 90, .inl fg_z))] := hD
  refine lv_aload_n hx hb d_M_init_12 rfl (lv_at hl 0 rfl) ?_
  refine lv_bipush (v := 90) hx hb d_M_init_13 (by decide) ?_
  refine fg_newI (n := 90) (N := 90) hx hb hts hK hP hD hS hA (by decide) (by decide) (by decide) (Nat.le_of_ble_eq_true rfl) (Nat.le_of_ble_eq_true rfl) d_M_init_15 (fun q2 H hP hD hS => ?_)
  have hP : va_P (dC, dI) classes [(h0, .inr (1, [.int 0, .int 0, .ref q1, .null, .null, .null, .null, .null, .null])), (q1, .inl (cI, 90, .inl fg_z)), (q2, .inl (cI, 90, .inl fg_z))] H := hP
  have hD : va_D A [(h0, .inr (1, [.int 0, .int 0, .ref q1, .null, .null, .null, .null, .null, .null])), (q1, .inl (cI, 90, .inl fg_z)), (q2, .inl (cI, 90, .inl fg_z))] := hD
  refine W.widen (k := 2) (n := 180) (Nat.le_of_ble_eq_true rfl) (Nat.le_of_ble_eq_true rfl) ?_
  refine va_putF (D := (dC, dI)) (ci := 1) (v := .ref q2) (ty := .array .int) (C := R_M) (T := F_M) (N := 9) hx hb hts i_M t_M t_M_ok n_M hown hK hP hD hS 0 rfl rfl 3 (by decide) (hts _ fl_M_13) (fun _ h9 => h9) rfl hin rfl (by decide +kernel) rfl rfl (Nat.le_of_ble_eq_true rfl) d_M_init_17 (fun H locs hP hD hS => ?_)
  have hP : va_P (dC, dI) classes [(h0, .inr (1, [.int 0, .int 0, .ref q1, .ref q2, .null, .null, .null, .null, .null])), (q1, .inl (cI, 90, .inl fg_z)), (q2, .inl (cI, 90, .inl fg_z))] H := hP
  have hD : va_D A [(h0, .inr (1, [.int 0, .int 0, .ref q1, .ref q2, .null, .null, .null, .null, .null])), (q1, .inl (cI, 90, .inl fg_z)), (q2, .inl (cI, 90, .inl fg_z))] := hD
  refine lv_aload_n hx hb d_M_init_20 rfl (lv_at hl 0 rfl) ?_
  refine lv_bipush (v := 90) hx hb d_M_init_21 (by decide) ?_
  refine fg_newI (n := 90) (N := 90) hx hb hts hK hP hD hS hA (by decide) (by decide) (by decide) (Nat.le_of_ble_eq_true rfl) (Nat.le_of_ble_eq_true rfl) d_M_init_23 (fun q3 H hP hD hS => ?_)
  have hP : va_P (dC, dI) classes [(h0, .inr (1, [.int 0, .int 0, .ref q1, .ref q2, .null, .null, .null, .null, .null])), (q1, .inl (cI, 90, .inl fg_z)), (q2, .inl (cI, 90, .inl fg_z)), (q3, .inl (cI, 90, .inl fg_z))] H := hP
  have hD : va_D A [(h0, .inr (1, [.int 0, .int 0, .ref q1, .ref q2, .null, .null, .null, .null, .null])), (q1, .inl (cI, 90, .inl fg_z)), (q2, .inl (cI, 90, .inl fg_z)), (q3, .inl (cI, 90, .inl fg_z))] := hD
  refine W.widen (k := 3) (n := 270) (Nat.le_of_ble_eq_true rfl) (Nat.le_of_ble_eq_true rfl) ?_
  refine va_putF (D := (dC, dI)) (ci := 1) (v := .ref q3) (ty := .array .int) (C := R_M) (T := F_M) (N := 9) hx hb hts i_M t_M t_M_ok n_M hown hK hP hD hS 0 rfl rfl 4 (by decide) (hts _ fl_M_16) (fun _ h9 => h9) rfl hin rfl (by decide +kernel) rfl rfl (Nat.le_of_ble_eq_true rfl) d_M_init_25 (fun H locs hP hD hS => ?_)
  have hP : va_P (dC, dI) classes [(h0, .inr (1, [.int 0, .int 0, .ref q1, .ref q2, .ref q3, .null, .null, .null, .null])), (q1, .inl (cI, 90, .inl fg_z)), (q2, .inl (cI, 90, .inl fg_z)), (q3, .inl (cI, 90, .inl fg_z))] H := hP
  have hD : va_D A [(h0, .inr (1, [.int 0, .int 0, .ref q1, .ref q2, .ref q3, .null, .null, .null, .null])), (q1, .inl (cI, 90, .inl fg_z)), (q2, .inl (cI, 90, .inl fg_z)), (q3, .inl (cI, 90, .inl fg_z))] := hD
  refine lv_aload_n hx hb d_M_init_28 rfl (lv_at hl 0 rfl) ?_
  refine lv_bipush (v := 90) hx hb d_M_init_29 (by decide) ?_
  refine fg_newZ (n := 90) (N := 90) hx hb hts hK hP hD hS hA (by decide) (by decide) (by decide) (Nat.le_of_ble_eq_true rfl) (Nat.le_of_ble_eq_true rfl) d_M_init_31 (fun q4 H hP hD hS => ?_)
  have hP : va_P (dC, dI) classes [(h0, .inr (1, [.int 0, .int 0, .ref q1, .ref q2, .ref q3, .null, .null, .null, .null])), (q1, .inl (cI, 90, .inl fg_z)), (q2, .inl (cI, 90, .inl fg_z)), (q3, .inl (cI, 90, .inl fg_z)), (q4, .inl (cZ, 90, .inl fg_z))] H := hP
  have hD : va_D A [(h0, .inr (1, [.int 0, .int 0, .ref q1, .ref q2, .ref q3, .null, .null, .null, .null])), (q1, .inl (cI, 90, .inl fg_z)), (q2, .inl (cI, 90, .inl fg_z)), (q3, .inl (cI, 90, .inl fg_z)), (q4, .inl (cZ, 90, .inl fg_z))] := hD
  refine W.widen (k := 4) (n := 360) (Nat.le_of_ble_eq_true rfl) (Nat.le_of_ble_eq_true rfl) ?_
  refine va_putF (D := (dC, dI)) (ci := 1) (v := .ref q4) (ty := .array .boolean) (C := R_M) (T := F_M) (N := 9) hx hb hts i_M t_M t_M_ok n_M hown hK hP hD hS 0 rfl rfl 5 (by decide) (hts _ fl_M_19) (fun _ h9 => h9) rfl hin rfl (by decide +kernel) rfl rfl (Nat.le_of_ble_eq_true rfl) d_M_init_33 (fun H locs hP hD hS => ?_)
  have hP : va_P (dC, dI) classes [(h0, .inr (1, [.int 0, .int 0, .ref q1, .ref q2, .ref q3, .ref q4, .null, .null, .null])), (q1, .inl (cI, 90, .inl fg_z)), (q2, .inl (cI, 90, .inl fg_z)), (q3, .inl (cI, 90, .inl fg_z)), (q4, .inl (cZ, 90, .inl fg_z))] H := hP
  have hD : va_D A [(h0, .inr (1, [.int 0, .int 0, .ref q1, .ref q2, .ref q3, .ref q4, .null, .null, .null])), (q1, .inl (cI, 90, .inl fg_z)), (q2, .inl (cI, 90, .inl fg_z)), (q3, .inl (cI, 90, .inl fg_z)), (q4, .inl (cZ, 90, .inl fg_z))] := hD
  refine lv_aload_n hx hb d_M_init_36 rfl (lv_at hl 0 rfl) ?_
  refine lv_bipush (v := 28) hx hb d_M_init_37 (by decide) ?_
  refine fg_newI (n := 28) (N := 28) hx hb hts hK hP hD hS hA (by decide) (by decide) (by decide) (Nat.le_of_ble_eq_true rfl) (Nat.le_of_ble_eq_true rfl) d_M_init_39 (fun q5 H hP hD hS => ?_)
  have hP : va_P (dC, dI) classes [(h0, .inr (1, [.int 0, .int 0, .ref q1, .ref q2, .ref q3, .ref q4, .null, .null, .null])), (q1, .inl (cI, 90, .inl fg_z)), (q2, .inl (cI, 90, .inl fg_z)), (q3, .inl (cI, 90, .inl fg_z)), (q4, .inl (cZ, 90, .inl fg_z)), (q5, .inl (cI, 28, .inl fg_z))] H := hP
  have hD : va_D A [(h0, .inr (1, [.int 0, .int 0, .ref q1, .ref q2, .ref q3, .ref q4, .null, .null, .null])), (q1, .inl (cI, 90, .inl fg_z)), (q2, .inl (cI, 90, .inl fg_z)), (q3, .inl (cI, 90, .inl fg_z)), (q4, .inl (cZ, 90, .inl fg_z)), (q5, .inl (cI, 28, .inl fg_z))] := hD
  refine W.widen (k := 5) (n := 388) (Nat.le_of_ble_eq_true rfl) (Nat.le_of_ble_eq_true rfl) ?_
  refine va_putF (D := (dC, dI)) (ci := 1) (v := .ref q5) (ty := .array .int) (C := R_M) (T := F_M) (N := 9) hx hb hts i_M t_M t_M_ok n_M hown hK hP hD hS 0 rfl rfl 6 (by decide) (hts _ fl_M_23) (fun _ h9 => h9) rfl hin rfl (by decide +kernel) rfl rfl (Nat.le_of_ble_eq_true rfl) d_M_init_41 (fun H locs hP hD hS => ?_)
  have hP : va_P (dC, dI) classes [(h0, .inr (1, [.int 0, .int 0, .ref q1, .ref q2, .ref q3, .ref q4, .ref q5, .null, .null])), (q1, .inl (cI, 90, .inl fg_z)), (q2, .inl (cI, 90, .inl fg_z)), (q3, .inl (cI, 90, .inl fg_z)), (q4, .inl (cZ, 90, .inl fg_z)), (q5, .inl (cI, 28, .inl fg_z))] H := hP
  have hD : va_D A [(h0, .inr (1, [.int 0, .int 0, .ref q1, .ref q2, .ref q3, .ref q4, .ref q5, .null, .null])), (q1, .inl (cI, 90, .inl fg_z)), (q2, .inl (cI, 90, .inl fg_z)), (q3, .inl (cI, 90, .inl fg_z)), (q4, .inl (cZ, 90, .inl fg_z)), (q5, .inl (cI, 28, .inl fg_z))] := hD
  refine lv_aload_n hx hb d_M_init_44 rfl (lv_at hl 0 rfl) ?_
  refine lv_bipush (v := 90) hx hb d_M_init_45 (by decide) ?_
  refine fg_newI (n := 90) (N := 90) hx hb hts hK hP hD hS hA (by decide) (by decide) (by decide) (Nat.le_of_ble_eq_true rfl) (Nat.le_of_ble_eq_true rfl) d_M_init_47 (fun q6 H hP hD hS => ?_)
  have hP : va_P (dC, dI) classes [(h0, .inr (1, [.int 0, .int 0, .ref q1, .ref q2, .ref q3, .ref q4, .ref q5, .null, .null])), (q1, .inl (cI, 90, .inl fg_z)), (q2, .inl (cI, 90, .inl fg_z)), (q3, .inl (cI, 90, .inl fg_z)), (q4, .inl (cZ, 90, .inl fg_z)), (q5, .inl (cI, 28, .inl fg_z)), (q6, .inl (cI, 90, .inl fg_z))] H := hP
  have hD : va_D A [(h0, .inr (1, [.int 0, .int 0, .ref q1, .ref q2, .ref q3, .ref q4, .ref q5, .null, .null])), (q1, .inl (cI, 90, .inl fg_z)), (q2, .inl (cI, 90, .inl fg_z)), (q3, .inl (cI, 90, .inl fg_z)), (q4, .inl (cZ, 90, .inl fg_z)), (q5, .inl (cI, 28, .inl fg_z)), (q6, .inl (cI, 90, .inl fg_z))] := hD
  refine W.widen (k := 6) (n := 478) (Nat.le_of_ble_eq_true rfl) (Nat.le_of_ble_eq_true rfl) ?_
  refine va_putF (D := (dC, dI)) (ci := 1) (v := .ref q6) (ty := .array .int) (C := R_M) (T := F_M) (N := 9) hx hb hts i_M t_M t_M_ok n_M hown hK hP hD hS 0 rfl rfl 7 (by decide) (hts _ fl_M_26) (fun _ h9 => h9) rfl hin rfl (by decide +kernel) rfl rfl (Nat.le_of_ble_eq_true rfl) d_M_init_49 (fun H locs hP hD hS => ?_)
  have hP : va_P (dC, dI) classes [(h0, .inr (1, [.int 0, .int 0, .ref q1, .ref q2, .ref q3, .ref q4, .ref q5, .ref q6, .null])), (q1, .inl (cI, 90, .inl fg_z)), (q2, .inl (cI, 90, .inl fg_z)), (q3, .inl (cI, 90, .inl fg_z)), (q4, .inl (cZ, 90, .inl fg_z)), (q5, .inl (cI, 28, .inl fg_z)), (q6, .inl (cI, 90, .inl fg_z))] H := hP
  have hD : va_D A [(h0, .inr (1, [.int 0, .int 0, .ref q1, .ref q2, .ref q3, .ref q4, .ref q5, .ref q6, .null])), (q1, .inl (cI, 90, .inl fg_z)), (q2, .inl (cI, 90, .inl fg_z)), (q3, .inl (cI, 90, .inl fg_z)), (q4, .inl (cZ, 90, .inl fg_z)), (q5, .inl (cI, 28, .inl fg_z)), (q6, .inl (cI, 90, .inl fg_z))] := hD
  refine lv_aload_n hx hb d_M_init_52 rfl (lv_at hl 0 rfl) ?_
  refine lv_bipush (v := 28) hx hb d_M_init_53 (by decide) ?_
  refine fg_newI (n := 28) (N := 28) hx hb hts hK hP hD hS hA (by decide) (by decide) (by decide) (Nat.le_of_ble_eq_true rfl) (Nat.le_of_ble_eq_true rfl) d_M_init_55 (fun q7 H hP hD hS => ?_)
  have hP : va_P (dC, dI) classes [(h0, .inr (1, [.int 0, .int 0, .ref q1, .ref q2, .ref q3, .ref q4, .ref q5, .ref q6, .null])), (q1, .inl (cI, 90, .inl fg_z)), (q2, .inl (cI, 90, .inl fg_z)), (q3, .inl (cI, 90, .inl fg_z)), (q4, .inl (cZ, 90, .inl fg_z)), (q5, .inl (cI, 28, .inl fg_z)), (q6, .inl (cI, 90, .inl fg_z)), (q7, .inl (cI, 28, .inl fg_z))] H := hP
  have hD : va_D A [(h0, .inr (1, [.int 0, .int 0, .ref q1, .ref q2, .ref q3, .ref q4, .ref q5, .ref q6, .null])), (q1, .inl (cI, 90, .inl fg_z)), (q2, .inl (cI, 90, .inl fg_z)), (q3, .inl (cI, 90, .inl fg_z)), (q4, .inl (cZ, 90, .inl fg_z)), (q5, .inl (cI, 28, .inl fg_z)), (q6, .inl (cI, 90, .inl fg_z)), (q7, .inl (cI, 28, .inl fg_z))] := hD
  refine W.widen (k := 7) (n := 506) (Nat.le_of_ble_eq_true rfl) (Nat.le_of_ble_eq_true rfl) ?_
  refine va_putF (D := (dC, dI)) (ci := 1) (v := .ref q7) (ty := .array .int) (C := R_M) (T := F_M) (N := 9) hx hb hts i_M t_M t_M_ok n_M hown hK hP hD hS 0 rfl rfl 8 (by decide) (hts _ fl_M_29) (fun _ h9 => h9) rfl hin rfl (by decide +kernel) rfl rfl (Nat.le_of_ble_eq_true rfl) d_M_init_57 (fun H locs hP hD hS => ?_)
  have hP : va_P (dC, dI) classes [(h0, .inr (1, [.int 0, .int 0, .ref q1, .ref q2, .ref q3, .ref q4, .ref q5, .ref q6, .ref q7])), (q1, .inl (cI, 90, .inl fg_z)), (q2, .inl (cI, 90, .inl fg_z)), (q3, .inl (cI, 90, .inl fg_z)), (q4, .inl (cZ, 90, .inl fg_z)), (q5, .inl (cI, 28, .inl fg_z)), (q6, .inl (cI, 90, .inl fg_z)), (q7, .inl (cI, 28, .inl fg_z))] H := hP
  have hD : va_D A [(h0, .inr (1, [.int 0, .int 0, .ref q1, .ref q2, .ref q3, .ref q4, .ref q5, .ref q6, .ref q7])), (q1, .inl (cI, 90, .inl fg_z)), (q2, .inl (cI, 90, .inl fg_z)), (q3, .inl (cI, 90, .inl fg_z)), (q4, .inl (cZ, 90, .inl fg_z)), (q5, .inl (cI, 28, .inl fg_z)), (q6, .inl (cI, 90, .inl fg_z)), (q7, .inl (cI, 28, .inl fg_z))] := hD
  refine W.widen (k := 7) (n := 506) (Nat.le_of_ble_eq_true rfl) (Nat.le_of_ble_eq_true rfl) ?_
  exact W.vret hx hb hr (fun t ht hW => ⟨⟨(fun k => match k with | 0 => h0 | 1 => q1 | 2 => q2 | 3 => q3 | 4 => q4 | 5 => q5 | 6 => q6 | _ => q7), rfl, rfl, by rw [ht]; exact hP, va_K.moved hW.alike hK, hD⟩, hS.F ht⟩) hS.2.2 d_M_init_60
