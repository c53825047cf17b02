/-! The law from its entry. -/
theorem st_nw : ∀ w ∈ tx_nw, w ∈ lw_tbl := by decide +kernel
theorem st_str : ∀ q ∈ tx_str, Cond.stringRef R_G q.1 q.2 ∈ lw_tbl := by decide +kernel
theorem st_l1 : Cond.laysStatic Bundle.tN "UNASSIGNED_STACK" Bundle.steD ∈ lw_tbl := by decide +kernel
theorem st_l2 : Cond.laysStatic Bundle.tN "SUPPRESSED_SENTINEL" Bundle.listD ∈ lw_tbl := by decide +kernel
theorem st_in : Cond.initialized Bundle.tN ∈ lw_tbl := by decide +kernel
def st_f (s : State) (k : Nat) : Nat := match (Term.string R_G k).eval #[] s none [] s with
  | some (.ref a) => a
  | _ => 0
theorem st_N {s : State} {args : Array Value} (hts : ∀ w ∈ lw_tbl, w.before args s = true) (hG : ∃ c, s.vm.findClass R_G = some c) : tx_N (st_f s) s := by
  refine ⟨fun w hw => va_Nw.of (tx_nw_on w hw) (hts w (st_nw w hw)), fun q hq => ?_⟩
  have h1 : (Cond.stringRef R_G q.1 q.2).before args s = true := hts _ (st_str q hq)
  obtain ⟨cur, hcur⟩ := hG
  obtain ⟨k, cf, i, a, -, -, -, -, -, he⟩ := Cond.stringRef_spec hcur h1
  have he2 : (Term.string R_G q.1).eval #[] s none [] s = some (.ref a) := he
  have hf : st_f s q.1 = a := by unfold st_f; rw [he2]
  rw [hf]
  exact vk_R.of (A := #[]) h1 he2
theorem st_arr {s : State} {args : Array Value} {ty : FieldType} (hn : ∀ C, ty ≠ .object C) (h : (Cond.arrayClass ty).before args s = true) : ∃ cA, ArrOfT s cA ty ∧ va_RA s cA ty := by
  obtain ⟨cA, kA, comp, h1, h2, h3⟩ := Cond.arrayClass_spec h
  refine ⟨cA, fun n z => ⟨fun k h => (by cases h), kA, h2, comp, h3⟩, ?_⟩
  unfold va_RA
  split
  · exact (hn _ rfl).elim
  · exact h1
theorem st_wf : wfm fg_z fg_z fg_z fg_z 0 0 := ⟨Nat.zero_le _, rfl, fun r h => absurd h (Nat.not_lt_zero r)⟩
set_option maxHeartbeats 4000000 in
set_option maxRecDepth 100000 in
theorem whole_start {p : Program} {e : Env} {s : State} {m : MethodId} {below : List Frame} {meth : Method} {c : Code} (l : Launch) (hst : l.stackTraces = false) {b L : Nat} {xs : Nat → Int32} (hL : L ≤ 2048) (C0 : lw_At p s m meth c b L xs) : W p l e room_1 s m #[Value.ref b] below meth c s.heap [] 0 0 (lw_Z below #[Value.ref b] s) (entryFrame m ([Value.ref b] : List Value).toArray 7) := by
  obtain ⟨hx, hb, hr, hml, hown, hts0, hXs, hbl, hlocks, hgv⟩ := id C0
  have hts : ∀ w ∈ gw, w.before #[Value.ref b] s = true := fun w h => hts0 w (gw_in h)
  have hA : ∀ z : Nat, s.heap.size ≤ z → (fun z : Nat => s.heap.size ≤ z) z := fun _ h => h
  have hgs := flat_of_before _ hgv
  obtain ⟨c0, iS0, hKn0⟩ := u_known (C := R_G) (T := F_G) (N := 8) (n := 8) hts i_G (hts _ it_G)
  obtain ⟨c1, iS1, hKn1⟩ := u_known (C := R_M) (T := F_M) (N := 9) (n := 9) hts i_M (hts _ it_M)
  obtain ⟨dC, dI, hKc⟩ : ∃ (dC : Nat → ClassId) (dI : Nat → Nat → Nat), ∀ (k : Nat) (q : vw_C), classes[k]? = some q → u_Kn s q.1 q.2.1 q.2.2 (dC k) (dI k) := by
    refine ⟨fun k => if k = 0 then c0 else c1, fun k => if k = 0 then iS0 else iS1, ?_⟩
    intro k q hq
    match k, hq with
    | 0, hq => cases hq; exact hKn0
    | 1, hq => cases hq; exact hKn1
    | k + 2, hq => simp [classes] at hq
  obtain ⟨cI, hcI⟩ := st_arr (ty := .int) (fun C => by simp) (hts _ ar_int)
  obtain ⟨cZ, hcZ⟩ := st_arr (ty := .boolean) (fun C => by simp) (hts _ ar_boolean)
  obtain ⟨cJ, hcJ⟩ := st_arr (ty := .long) (fun C => by simp) (hts _ ar_long)
  have hK : va_K (dC, dI) classes (gTL cI cZ cJ) s := ⟨hKc, fun k q h => by
    match k, h with
    | 0, h => cases h; exact hcI
    | 1, h => cases h; exact hcZ
    | 2, h => cases h; exact hcJ
    | k + 3, h => simp at h⟩
  have hK2 := hK.sub (tys' := gT cI cZ) [0, 1] rfl
  have hG : ∃ c, s.vm.findClass R_G = some c := by
    obtain ⟨cC, kC, hfc, -⟩ := Cond.instantiable_spec (hts _ it_G)
    exact ⟨cC, hfc⟩
  have hN : ∀ z : Nat, z < s.heap.size → ¬ (fun z : Nat => s.heap.size ≤ z) z := fun z h1 h2 => Nat.not_le.mpr h1 h2
  have hX : tx_E (st_f s) (fun z : Nat => s.heap.size ≤ z) s s.heap := ⟨vx_Zqof (hts0 _ st_l1) (hts0 _ st_in) (hgs _ (by decide +kernel)) hN, vx_Zqof (hts0 _ st_l2) (hts0 _ st_in) (hgs _ (by decide +kernel)) hN, st_N hts0 hG⟩
  have hC : tx_C s := ⟨va_Nc.of (hgs _ (by decide +kernel)), va_Nc.of (hgs _ (by decide +kernel))⟩
  have hS : va_S (fun z : Nat => s.heap.size ≤ z) s.heap s.heap [] := va_S.rf
  have hP : va_P (dC, dI) classes [] s.heap := fun k q h => by simp at h
  have hD : va_D (fun z : Nat => s.heap.size ≤ z) [] := ⟨fun i j p q h => by simp at h, fun k q h => by simp at h⟩
  have hl := lv_entry ([.ref b]) (n := 7) (Nat.le_of_ble_eq_true rfl)
  rw [lg_entry_eq]
  generalize (lg_sl ([.ref b]) ++ List.replicate (7 - (lg_sl ([.ref b])).length) Slot.unset).toArray = ls at hl ⊢
  have hl : lv_has ls 7 [(0, .ref b)] := hl
  refine va_new (ci := 0) (fs := [.null, .null, .null, .null, .int 0, .null, .null, .null]) (C := R_G) (T := F_G) (N := 8) hx hb hts i_G t_G t_G_ok hown (hts _ cl_L_8) (hts _ it_G) (hts _ in_G) hK2 hP hD hS hA rfl (fun j hj => by rcases (show j = 0 ∨ j = 1 ∨ j = 2 ∨ j = 3 ∨ j = 4 ∨ j = 5 ∨ j = 6 ∨ j = 7 by omega) with rfl | rfl | rfl | rfl | rfl | rfl | rfl | rfl <;> rfl) (Nat.le_of_ble_eq_true rfl) (Nat.le_of_ble_eq_true rfl) d_L_law_0 (fun h0 H hP hD hS => ?_)
  have hP : va_P (dC, dI) classes [(h0, .inr (0, [.null, .null, .null, .null, .int 0, .null, .null, .null]))] H := hP
  have hD : va_D (fun z : Nat => s.heap.size ≤ z) [(h0, .inr (0, [.null, .null, .null, .null, .int 0, .null, .null, .null]))] := hD
  refine W.widen (k := 1) (n := 8) (Nat.le_of_ble_eq_true rfl) (Nat.le_of_ble_eq_true rfl) ?_
  refine lv_dup hx hb d_L_law_3 rfl ?_
  have hPc := hP.sub (ws' := [(h0, .inr (0, [.null, .null, .null, .null, .int 0, .null, .null, .null]))]) [0] rfl
  have hDc := hD.sub (ws' := [(h0, .inr (0, [.null, .null, .null, .null, .int 0, .null, .null, .null]))]) [0] (by decide) rfl
  have hFc := va_free (wc := [(h0, .inr (0, [.null, .null, .null, .null, .int 0, .null, .null, .null]))]) hD hS hA [0] rfl
  refine va_callv (va_runI (As := []) (rest := [.ref h0]) ⟨hx, hb, hml, hown, hts⟩ (c_G_init l dC dI cI cZ h0 H.size) (cwI 0 hts (gw_cons cd_G_init) rfl rfl rfl (hts _ in_G) (hts _ ml_L_46) (hts _ im_G_init) rfl (by decide +kernel) ⟨Nat.le_of_ble_eq_true rfl, Nat.le_of_ble_eq_true rfl⟩) ⟨fun a U g mk q => by obtain ⟨q0, q1, qP, qK, qD⟩ := q; exact ⟨q0, q1, qP, va_K.moved (u := U) (U := U.calling g mk a) (Vm.Alike.refl U.vm) qK, qD⟩, fun U hU hW => ⟨rfl, by rw [hU], by rw [hU]; exact hPc, va_K.moved hW.alike hK2, hDc.weaken (fun _ _ _ _ => trivial)⟩⟩ rfl rfl hl.1 rfl (lv_room (Nat.le_of_ble_eq_true rfl)) d_L_law_4 ⟨Nat.le_of_ble_eq_true rfl, Nat.le_of_ble_eq_true rfl⟩) hS (fun q _ h => hFc q h) hFc (fun ad t H1 locs ht hvm hw hB hz1 hk1 hS => ?_)
  subst hw
  obtain ⟨hP1, hK1, hD1⟩ := hB
  rw [ht] at hP1
  obtain ⟨hP, hD⟩ := va_join (wr := []) (w1 := gW cI cZ ad fg_z fg_z fg_z fg_z 0 fg_z fg_z fg_z) hP hD [0] [] rfl rfl (by decide) (by decide) hk1 hFc hP1 hD1
  generalize H1 = H at hP hS ⊢
  have hP : va_P (dC, dI) classes [(ad 0, .inr (0, [.ref (ad 1), .ref (ad 2), .ref (ad 3), .ref (ad 4), .int 0, .ref (ad 5), .ref (ad 6), .ref (ad 7)])), (ad 1, .inl (cI, 90, .inl fg_z)), (ad 2, .inl (cI, 90, .inl fg_z)), (ad 3, .inl (cI, 90, .inl fg_z)), (ad 4, .inl (cZ, 90, .inl fg_z)), (ad 5, .inl (cI, 28, .inl fg_z)), (ad 6, .inl (cI, 90, .inl fg_z)), (ad 7, .inl (cI, 28, .inl fg_z))] H := hP
  have hD : va_D (fun z : Nat => s.heap.size ≤ z) [(ad 0, .inr (0, [.ref (ad 1), .ref (ad 2), .ref (ad 3), .ref (ad 4), .int 0, .ref (ad 5), .ref (ad 6), .ref (ad 7)])), (ad 1, .inl (cI, 90, .inl fg_z)), (ad 2, .inl (cI, 90, .inl fg_z)), (ad 3, .inl (cI, 90, .inl fg_z)), (ad 4, .inl (cZ, 90, .inl fg_z)), (ad 5, .inl (cI, 28, .inl fg_z)), (ad 6, .inl (cI, 90, .inl fg_z)), (ad 7, .inl (cI, 28, .inl fg_z))] := hD
  refine W.widen (k := 8) (n := 514) (Nat.le_of_ble_eq_true rfl) (Nat.le_of_ble_eq_true rfl) ?_
  refine lv_astore_n (lv' := [(1, .ref (ad 0)), (0, .ref b)]) hx hb d_L_law_7 rfl hl (by decide) rfl (fun ls hl => ?_)
  refine va_new (ci := 1) (fs := [.int 0, .int 0, .null, .null, .null, .null, .null, .null, .null]) (C := R_M) (T := F_M) (N := 9) hx hb hts i_M t_M t_M_ok hown (hts _ cl_L_47) (hts _ it_M) (hts _ in_M) hK2 hP hD hS hA rfl (fun j hj => by rcases (show j = 0 ∨ j = 1 ∨ j = 2 ∨ j = 3 ∨ j = 4 ∨ j = 5 ∨ j = 6 ∨ j = 7 ∨ j = 8 by omega) with rfl | rfl | rfl | rfl | rfl | rfl | rfl | rfl | rfl <;> rfl) (Nat.le_of_ble_eq_true rfl) (Nat.le_of_ble_eq_true rfl) d_L_law_8 (fun h1 H hP hD hS => ?_)
  have hP : va_P (dC, dI) classes [(ad 0, .inr (0, [.ref (ad 1), .ref (ad 2), .ref (ad 3), .ref (ad 4), .int 0, .ref (ad 5), .ref (ad 6), .ref (ad 7)])), (ad 1, .inl (cI, 90, .inl fg_z)), (ad 2, .inl (cI, 90, .inl fg_z)), (ad 3, .inl (cI, 90, .inl fg_z)), (ad 4, .inl (cZ, 90, .inl fg_z)), (ad 5, .inl (cI, 28, .inl fg_z)), (ad 6, .inl (cI, 90, .inl fg_z)), (ad 7, .inl (cI, 28, .inl fg_z)), (h1, .inr (1, [.int 0, .int 0, .null, .null, .null, .null, .null, .null, .null]))] H := hP
  have hD : va_D (fun z : Nat => s.heap.size ≤ z) [(ad 0, .inr (0, [.ref (ad 1), .ref (ad 2), .ref (ad 3), .ref (ad 4), .int 0, .ref (ad 5), .ref (ad 6), .ref (ad 7)])), (ad 1, .inl (cI, 90, .inl fg_z)), (ad 2, .inl (cI, 90, .inl fg_z)), (ad 3, .inl (cI, 90, .inl fg_z)), (ad 4, .inl (cZ, 90, .inl fg_z)), (ad 5, .inl (cI, 28, .inl fg_z)), (ad 6, .inl (cI, 90, .inl fg_z)), (ad 7, .inl (cI, 28, .inl fg_z)), (h1, .inr (1, [.int 0, .int 0, .null, .null, .null, .null, .null, .null, .null]))] := hD
  refine W.widen (k := 9) (n := 523) (Nat.le_of_ble_eq_true rfl) (Nat.le_of_ble_eq_true rfl) ?_
  refine lv_dup hx hb d_L_law_11 rfl ?_
  have hPc := hP.sub (ws' := [(h1, .inr (1, [.int 0, .int 0, .null, .null, .null, .null, .null, .null, .null]))]) [8] rfl
  have hDc := hD.sub (ws' := [(h1, .inr (1, [.int 0, .int 0, .null, .null, .null, .null, .null, .null, .null]))]) [8] (by decide) rfl
  have hFc := va_free (wc := [(h1, .inr (1, [.int 0, .int 0, .null, .null, .null, .null, .null, .null, .null]))]) hD hS hA [8] rfl
  refine va_callv (va_runI (As := []) (rest := [.ref h1]) ⟨hx, hb, hml, hown, hts⟩ (c_M_init l dC dI cI cZ h1 H.size) (cwI 0 hts (gw_cons cd_M_init) rfl rfl rfl (hts _ in_M) (hts _ ml_L_49) (hts _ im_M_init) rfl (by decide +kernel) ⟨Nat.le_of_ble_eq_true rfl, Nat.le_of_ble_eq_true rfl⟩) ⟨fun a U g mk q => by obtain ⟨q0, q1, qP, qK, qD⟩ := q; exact ⟨q0, q1, qP, va_K.moved (u := U) (U := U.calling g mk a) (Vm.Alike.refl U.vm) qK, qD⟩, fun U hU hW => ⟨rfl, by rw [hU], by rw [hU]; exact hPc, va_K.moved hW.alike hK2, hDc.weaken (fun _ _ _ _ => trivial)⟩⟩ rfl rfl hl.1 rfl (lv_room (Nat.le_of_ble_eq_true rfl)) d_L_law_12 ⟨Nat.le_of_ble_eq_true rfl, Nat.le_of_ble_eq_true rfl⟩) hS (fun q _ h => hFc q h) hFc (fun am t H1 locs ht hvm hw hB hz1 hk1 hS => ?_)
  subst hw
  obtain ⟨hP1, hK1, hD1⟩ := hB
  rw [ht] at hP1
  obtain ⟨hP, hD⟩ := va_join (wr := [(ad 0, .inr (0, [.ref (ad 1), .ref (ad 2), .ref (ad 3), .ref (ad 4), .int 0, .ref (ad 5), .ref (ad 6), .ref (ad 7)])), (ad 1, .inl (cI, 90, .inl fg_z)), (ad 2, .inl (cI, 90, .inl fg_z)), (ad 3, .inl (cI, 90, .inl fg_z)), (ad 4, .inl (cZ, 90, .inl fg_z)), (ad 5, .inl (cI, 28, .inl fg_z)), (ad 6, .inl (cI, 90, .inl fg_z)), (ad 7, .inl (cI, 28, .inl fg_z))]) (w1 := mW cI cZ am 0 0 fg_z fg_z fg_z fg_z fg_z fg_z fg_z) hP hD [8] [0, 1, 2, 3, 4, 5, 6, 7] rfl rfl (by decide) (by decide) hk1 hFc hP1 hD1
  generalize H1 = H at hP hS ⊢
  have hP : va_P (dC, dI) classes [(ad 0, .inr (0, [.ref (ad 1), .ref (ad 2), .ref (ad 3), .ref (ad 4), .int 0, .ref (ad 5), .ref (ad 6), .ref (ad 7)])), (ad 1, .inl (cI, 90, .inl fg_z)), (ad 2, .inl (cI, 90, .inl fg_z)), (ad 3, .inl (cI, 90, .inl fg_z)), (ad 4, .inl (cZ, 90, .inl fg_z)), (ad 5, .inl (cI, 28, .inl fg_z)), (ad 6, .inl (cI, 90, .inl fg_z)), (ad 7, .inl (cI, 28, .inl fg_z)), (am 0, .inr (1, [.int 0, .int 0, .ref (am 1), .ref (am 2), .ref (am 3), .ref (am 4), .ref (am 5), .ref (am 6), .ref (am 7)])), (am 1, .inl (cI, 90, .inl fg_z)), (am 2, .inl (cI, 90, .inl fg_z)), (am 3, .inl (cI, 90, .inl fg_z)), (am 4, .inl (cZ, 90, .inl fg_z)), (am 5, .inl (cI, 28, .inl fg_z)), (am 6, .inl (cI, 90, .inl fg_z)), (am 7, .inl (cI, 28, .inl fg_z))] H := hP
  have hD : va_D (fun z : Nat => s.heap.size ≤ z) [(ad 0, .inr (0, [.ref (ad 1), .ref (ad 2), .ref (ad 3), .ref (ad 4), .int 0, .ref (ad 5), .ref (ad 6), .ref (ad 7)])), (ad 1, .inl (cI, 90, .inl fg_z)), (ad 2, .inl (cI, 90, .inl fg_z)), (ad 3, .inl (cI, 90, .inl fg_z)), (ad 4, .inl (cZ, 90, .inl fg_z)), (ad 5, .inl (cI, 28, .inl fg_z)), (ad 6, .inl (cI, 90, .inl fg_z)), (ad 7, .inl (cI, 28, .inl fg_z)), (am 0, .inr (1, [.int 0, .int 0, .ref (am 1), .ref (am 2), .ref (am 3), .ref (am 4), .ref (am 5), .ref (am 6), .ref (am 7)])), (am 1, .inl (cI, 90, .inl fg_z)), (am 2, .inl (cI, 90, .inl fg_z)), (am 3, .inl (cI, 90, .inl fg_z)), (am 4, .inl (cZ, 90, .inl fg_z)), (am 5, .inl (cI, 28, .inl fg_z)), (am 6, .inl (cI, 90, .inl fg_z)), (am 7, .inl (cI, 28, .inl fg_z))] := hD
  refine W.widen (k := 16) (n := 1029) (Nat.le_of_ble_eq_true rfl) (Nat.le_of_ble_eq_true rfl) ?_
  refine lv_astore_n (lv' := [(2, .ref (am 0)), (1, .ref (ad 0)), (0, .ref b)]) hx hb d_L_law_15 rfl hl (by decide) rfl (fun ls hl => ?_)
  refine lv_iconst (v := 1) hx hb d_L_law_16 (by decide) ?_
  refine va_newa (atype := .long) (ty := .long) (a0 := (1, .inr (.inl (fun _ => 0)))) (n := 1) (N' := 1) hx hb (hts _ ar_long) rfl hK hP hD hS hA (fun cA => rfl) (by decide) (by decide) (by decide) (Nat.le_of_ble_eq_true rfl) (Nat.le_of_ble_eq_true rfl) d_L_law_17 (fun q cA H hK1 hP hD hS => ?_)
  have hj := va_nm_long (hK1.2 3 (cA, .long) rfl).2
  rw [va_nm_long (hK1.2 2 (cJ, .long) rfl).2] at hj
  cases hj
  refine W.widen (k := 17 + 0) (n := 1030 + 6 * 0) (Nat.le_of_ble_eq_true rfl) (Nat.le_of_ble_eq_true rfl) ?_
  refine lv_astore_n (lv' := [(3, .ref q), (2, .ref (am 0)), (1, .ref (ad 0)), (0, .ref b)]) hx hb d_L_law_19 rfl hl (by decide) rfl (fun ls hl => ?_)
  refine lv_iconst (v := 0) hx hb d_L_law_20 (by decide) ?_
  refine lv_istore (lv' := [(4, .int 0), (3, .ref q), (2, .ref (am 0)), (1, .ref (ad 0)), (0, .ref b)]) hx hb d_L_law_21 hl (by decide) rfl (fun ls hl => ?_)
  have hf := pl_law xs hL 600 0 0 fg_z fg_z fg_z fg_z 0 fg_z fg_z fg_z fg_z fg_z fg_z 0 (fun _ => 0) (Nat.zero_le _) (by omega) st_wf
  exact w_law hL hst C0 hK hX hC 600 0 (nI (4 * 0)) fg_z fg_z fg_z fg_z 0 fg_z fg_z fg_z 0 0 fg_z fg_z fg_z fg_z fg_z fg_z fg_z (fun _ => 0) hf rfl (Nat.zero_le _) (Nat.zero_le _) H _ ls hP hD hS (lv_sub hl [4, 3, 2, 1, 0] rfl)
