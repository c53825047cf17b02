/-! The law's world (lW: both sides' cells and the law's own array), and rows for its calls. -/
abbrev lW (cI cZ cJ : ClassId) (ad am : Nat → Nat) (q : Nat) (gB : fg_A) (gE : fg_A) (gC : fg_A) (gO : fg_A) (gn : Int32) (gF : fg_A) (gL : fg_A) (gV : fg_A) (mt : Int32) (mn : Int32) (mB : fg_A) (mE : fg_A) (mC : fg_A) (mO : fg_A) (mF : fg_A) (mL : fg_A) (mV : fg_A) (w : fg_J) : va_W := [(ad 0, .inr (0, [.ref (ad 1), .ref (ad 2), .ref (ad 3), .ref (ad 4), .int gn, .ref (ad 5), .ref (ad 6), .ref (ad 7)])), (ad 1, .inl (cI, 90, .inl gB)), (ad 2, .inl (cI, 90, .inl gE)), (ad 3, .inl (cI, 90, .inl gC)), (ad 4, .inl (cZ, 90, .inl gO)), (ad 5, .inl (cI, 28, .inl gF)), (ad 6, .inl (cI, 90, .inl gL)), (ad 7, .inl (cI, 28, .inl gV)), (am 0, .inr (1, [.int mt, .int mn, .ref (am 1), .ref (am 2), .ref (am 3), .ref (am 4), .ref (am 5), .ref (am 6), .ref (am 7)])), (am 1, .inl (cI, 90, .inl mB)), (am 2, .inl (cI, 90, .inl mE)), (am 3, .inl (cI, 90, .inl mC)), (am 4, .inl (cZ, 90, .inl mO)), (am 5, .inl (cI, 28, .inl mF)), (am 6, .inl (cI, 90, .inl mL)), (am 7, .inl (cI, 28, .inl mV)), (q, .inl (cJ, 1, .inr (.inl w)))]
theorem lw_cle {k : Nat} (h : k ≤ 1048) : k ≤ room_1.cells := h
theorem lw_sle {k : Nat} (h : k ≤ 9264) : k ≤ room_1.slots := h
theorem lw_next (it : Nat) : nI (4 * it) + 4 = nI (4 * (it + 1)) := by rw [show (4 : Int32) = nI 4 from rfl, nI_add]; rfl
theorem lw_in {L it : Nat} {x4 : Int32} (hL : L ≤ 2048) (hx4 : x4 = nI (4 * it)) (h4 : 4 * it ≤ L) (hc : ¬ (Int32.ofNat L - 4) < x4) : 4 * it + 4 ≤ L := by
  rcases Nat.lt_or_ge (4 * it + 3) L with z | z
  · omega
  · exfalso
    apply hc
    rw [hx4, Int32.lt_iff_toInt_lt, nI_toInt (by omega)]
    have e1 : (Int32.ofNat L).toInt = L := nI_toInt (n := L) (by omega)
    have e2 : (4 : Int32).toInt = 4 := by decide
    rw [ti_sub (by omega) (by omega) (by omega) (by omega), e1, e2]
    omega
theorem lw_sw {v : Int32} (h0 : ¬ v = 0) (h1 : ¬ v = 1) (h2 : ¬ v = 2) (h3 : ¬ v = 3) (h4 : ¬ v = 4) (h5 : ¬ v = 5) (h6 : ¬ v = 6) (h7 : ¬ v = 7) (h8 : ¬ v = 8) (h9 : ¬ v = 9) (h10 : ¬ v = 10) : v.toInt < 0 ∨ 10 < v.toInt := by
  have g0 : v.toInt ≠ 0 := fun z => h0 (Int32.toInt_inj.mp (z.trans (by decide)))
  have g1 : v.toInt ≠ 1 := fun z => h1 (Int32.toInt_inj.mp (z.trans (by decide)))
  have g2 : v.toInt ≠ 2 := fun z => h2 (Int32.toInt_inj.mp (z.trans (by decide)))
  have g3 : v.toInt ≠ 3 := fun z => h3 (Int32.toInt_inj.mp (z.trans (by decide)))
  have g4 : v.toInt ≠ 4 := fun z => h4 (Int32.toInt_inj.mp (z.trans (by decide)))
  have g5 : v.toInt ≠ 5 := fun z => h5 (Int32.toInt_inj.mp (z.trans (by decide)))
  have g6 : v.toInt ≠ 6 := fun z => h6 (Int32.toInt_inj.mp (z.trans (by decide)))
  have g7 : v.toInt ≠ 7 := fun z => h7 (Int32.toInt_inj.mp (z.trans (by decide)))
  have g8 : v.toInt ≠ 8 := fun z => h8 (Int32.toInt_inj.mp (z.trans (by decide)))
  have g9 : v.toInt ≠ 9 := fun z => h9 (Int32.toInt_inj.mp (z.trans (by decide)))
  have g10 : v.toInt ≠ 10 := fun z => h10 (Int32.toInt_inj.mp (z.trans (by decide)))
  omega
section FGL
variable {p : Program} {l : Launch} {e : Env} {R : Room} {s : State} {m : MethodId} {args : Array Value} {below : List Frame} {meth : Method} {c : Code} {H H0 : Heap} {locs : List Loc} {cells slots : Nat} {Q : State → Prop} {rest st0 : List Value} {a : Array Value} {pc : Nat} {ls : Array Slot} {A : Nat → Prop} {dC : Nat → ClassId} {dI : Nat → Nat → Nat} {cI cZ cJ : ClassId} {ad am : Nat → Nat} {q : Nat} {w : fg_J}
set_option maxRecDepth 20000 in
theorem fgL_h {gB : fg_A} {gE : fg_A} {gC : fg_A} {gO : fg_A} {gn : Int32} {gF : fg_A} {gL : fg_A} {gV : fg_A} {mt : Int32} {mn : Int32} {mB : fg_A} {mE : fg_A} {mC : fg_A} {mO : fg_A} {mF : fg_A} {mL : fg_A} {mV : fg_A} {gB' : fg_A} {gE' : fg_A} {gC' : fg_A} {gO' : fg_A} {gn' : Int32} {gF' : fg_A} {gL' : fg_A} {gV' : fg_A} {w' : fg_J} {r : Int32} (hr : va_Run p l e R s m args below meth c H locs cells slots 1 6 (F0 m pc ls st0) rest (hW_Qi dC dI cI cZ cJ ad q (va_A (hW cI cZ cJ ad q gB gE gC gO gn gF gL gV w) H.size) gB' gE' gC' gO' gn' gF' gL' gV' w' r a) (va_A (hW cI cZ cJ ad q gB gE gC gO gn gF gL gV w) H.size)) (hP : va_P (dC, dI) classes (lW cI cZ cJ ad am q gB gE gC gO gn gF gL gV mt mn mB mE mC mO mF mL mV w) H) (hD : va_D A (lW cI cZ cJ ad am q gB gE gC gO gn gF gL gV mt mn mB mE mC mO mF mL mV w)) (hS : va_S A H0 H locs) (hA : ∀ z, H0.size ≤ z → A z)
    (kk : ∀ (H1 : Heap) (locs1 : List Loc), va_P (dC, dI) classes (lW cI cZ cJ ad am q gB' gE' gC' gO' gn' gF' gL' gV' mt mn mB mE mC mO mF mL mV w') H1 → va_D A (lW cI cZ cJ ad am q gB' gE' gC' gO' gn' gF' gL' gV' mt mn mB mE mC mO mF mL mV w') → va_S A H0 H1 locs1 → W p l e R s m args below meth c H1 locs1 (cells + 1) (slots + 6) Q (F0 m (pc + 3) ls (.int r :: rest))) : W p l e R s m args below meth c H locs cells slots Q (F0 m pc ls st0) := by
  have hFc := va_free (wc := hW cI cZ cJ ad q gB gE gC gO gn gF gL gV w) hD hS hA [0, 1, 2, 3, 4, 5, 6, 7, 16] rfl
  refine va_calli hr hS (fun q _ h => hFc q h) hFc (fun r1 u T H1 locs1 ht hvm hw hB hz1 hk1 hS1 => ?_)
  obtain ⟨hP1, hK1, hD1⟩ := hB
  rw [ht] at hP1
  obtain ⟨hP2, hD2⟩ := va_join (wr := [(am 0, .inr (1, [.int mt, .int mn, .ref (am 1), .ref (am 2), .ref (am 3), .ref (am 4), .ref (am 5), .ref (am 6), .ref (am 7)])), (am 1, .inl (cI, 90, .inl mB)), (am 2, .inl (cI, 90, .inl mE)), (am 3, .inl (cI, 90, .inl mC)), (am 4, .inl (cZ, 90, .inl mO)), (am 5, .inl (cI, 28, .inl mF)), (am 6, .inl (cI, 90, .inl mL)), (am 7, .inl (cI, 28, .inl mV))]) (w1 := hW cI cZ cJ ad q gB' gE' gC' gO' gn' gF' gL' gV' w') hP hD [0, 1, 2, 3, 4, 5, 6, 7, 16] [8, 9, 10, 11, 12, 13, 14, 15] rfl rfl (by decide) (by decide) hk1 hFc hP1 hD1
  subst hw
  exact kk H1 locs1 (hP2.sub [8, 9, 10, 11, 12, 13, 14, 15, 0, 1, 2, 3, 4, 5, 6, 7, 16] rfl) (hD2.sub [8, 9, 10, 11, 12, 13, 14, 15, 0, 1, 2, 3, 4, 5, 6, 7, 16] (by decide) rfl) hS1
set_option maxRecDepth 20000 in
theorem fgLg_i {gB : fg_A} {gE : fg_A} {gC : fg_A} {gO : fg_A} {gn : Int32} {gF : fg_A} {gL : fg_A} {gV : fg_A} {mt : Int32} {mn : Int32} {mB : fg_A} {mE : fg_A} {mC : fg_A} {mO : fg_A} {mF : fg_A} {mL : fg_A} {mV : fg_A} {gB' : fg_A} {gE' : fg_A} {gC' : fg_A} {gO' : fg_A} {gn' : Int32} {gF' : fg_A} {gL' : fg_A} {gV' : fg_A} {r : Int32} (hr : va_Run p l e R s m args below meth c H locs cells slots 0 0 (F0 m pc ls st0) rest (gW_Qi dC dI cI cZ ad (va_A (gW cI cZ ad gB gE gC gO gn gF gL gV) H.size) gB' gE' gC' gO' gn' gF' gL' gV' r a) (va_A (gW cI cZ ad gB gE gC gO gn gF gL gV) H.size)) (hP : va_P (dC, dI) classes (lW cI cZ cJ ad am q gB gE gC gO gn gF gL gV mt mn mB mE mC mO mF mL mV w) H) (hD : va_D A (lW cI cZ cJ ad am q gB gE gC gO gn gF gL gV mt mn mB mE mC mO mF mL mV w)) (hS : va_S A H0 H locs) (hA : ∀ z, H0.size ≤ z → A z)
    (kk : ∀ (H1 : Heap) (locs1 : List Loc), va_P (dC, dI) classes (lW cI cZ cJ ad am q gB' gE' gC' gO' gn' gF' gL' gV' mt mn mB mE mC mO mF mL mV w) H1 → va_D A (lW cI cZ cJ ad am q gB' gE' gC' gO' gn' gF' gL' gV' mt mn mB mE mC mO mF mL mV w) → va_S A H0 H1 locs1 → W p l e R s m args below meth c H1 locs1 cells slots Q (F0 m (pc + 3) ls (.int r :: rest))) : W p l e R s m args below meth c H locs cells slots Q (F0 m pc ls st0) := by
  have hFc := va_free (wc := gW cI cZ ad gB gE gC gO gn gF gL gV) hD hS hA [0, 1, 2, 3, 4, 5, 6, 7] rfl
  refine va_calli hr hS (fun q _ h => hFc q h) hFc (fun r1 u T H1 locs1 ht hvm hw hB hz1 hk1 hS1 => ?_)
  obtain ⟨hP1, hK1, hD1⟩ := hB
  rw [ht] at hP1
  obtain ⟨hP2, hD2⟩ := va_join (wr := [(am 0, .inr (1, [.int mt, .int mn, .ref (am 1), .ref (am 2), .ref (am 3), .ref (am 4), .ref (am 5), .ref (am 6), .ref (am 7)])), (am 1, .inl (cI, 90, .inl mB)), (am 2, .inl (cI, 90, .inl mE)), (am 3, .inl (cI, 90, .inl mC)), (am 4, .inl (cZ, 90, .inl mO)), (am 5, .inl (cI, 28, .inl mF)), (am 6, .inl (cI, 90, .inl mL)), (am 7, .inl (cI, 28, .inl mV)), (q, .inl (cJ, 1, .inr (.inl w)))]) (w1 := gW cI cZ ad gB' gE' gC' gO' gn' gF' gL' gV') hP hD [0, 1, 2, 3, 4, 5, 6, 7] [8, 9, 10, 11, 12, 13, 14, 15, 16] rfl rfl (by decide) (by decide) hk1 hFc hP1 hD1
  subst hw
  exact kk H1 locs1 (hP2.sub [9, 10, 11, 12, 13, 14, 15, 16, 0, 1, 2, 3, 4, 5, 6, 7, 8] rfl) (hD2.sub [9, 10, 11, 12, 13, 14, 15, 16, 0, 1, 2, 3, 4, 5, 6, 7, 8] (by decide) rfl) hS1
set_option maxRecDepth 20000 in
theorem fgLm_i {gB : fg_A} {gE : fg_A} {gC : fg_A} {gO : fg_A} {gn : Int32} {gF : fg_A} {gL : fg_A} {gV : fg_A} {mt : Int32} {mn : Int32} {mB : fg_A} {mE : fg_A} {mC : fg_A} {mO : fg_A} {mF : fg_A} {mL : fg_A} {mV : fg_A} {mt' : Int32} {mn' : Int32} {mB' : fg_A} {mE' : fg_A} {mC' : fg_A} {mO' : fg_A} {mF' : fg_A} {mL' : fg_A} {mV' : fg_A} {r : Int32} (hr : va_Run p l e R s m args below meth c H locs cells slots 0 0 (F0 m pc ls st0) rest (mW_Qi dC dI cI cZ am (va_A (mW cI cZ am mt mn mB mE mC mO mF mL mV) H.size) mt' mn' mB' mE' mC' mO' mF' mL' mV' r a) (va_A (mW cI cZ am mt mn mB mE mC mO mF mL mV) H.size)) (hP : va_P (dC, dI) classes (lW cI cZ cJ ad am q gB gE gC gO gn gF gL gV mt mn mB mE mC mO mF mL mV w) H) (hD : va_D A (lW cI cZ cJ ad am q gB gE gC gO gn gF gL gV mt mn mB mE mC mO mF mL mV w)) (hS : va_S A H0 H locs) (hA : ∀ z, H0.size ≤ z → A z)
    (kk : ∀ (H1 : Heap) (locs1 : List Loc), va_P (dC, dI) classes (lW cI cZ cJ ad am q gB gE gC gO gn gF gL gV mt' mn' mB' mE' mC' mO' mF' mL' mV' w) H1 → va_D A (lW cI cZ cJ ad am q gB gE gC gO gn gF gL gV mt' mn' mB' mE' mC' mO' mF' mL' mV' w) → va_S A H0 H1 locs1 → W p l e R s m args below meth c H1 locs1 cells slots Q (F0 m (pc + 3) ls (.int r :: rest))) : W p l e R s m args below meth c H locs cells slots Q (F0 m pc ls st0) := by
  have hFc := va_free (wc := mW cI cZ am mt mn mB mE mC mO mF mL mV) hD hS hA [8, 9, 10, 11, 12, 13, 14, 15] rfl
  refine va_calli hr hS (fun q _ h => hFc q h) hFc (fun r1 u T H1 locs1 ht hvm hw hB hz1 hk1 hS1 => ?_)
  obtain ⟨hP1, hK1, hD1⟩ := hB
  rw [ht] at hP1
  obtain ⟨hP2, hD2⟩ := va_join (wr := [(ad 0, .inr (0, [.ref (ad 1), .ref (ad 2), .ref (ad 3), .ref (ad 4), .int gn, .ref (ad 5), .ref (ad 6), .ref (ad 7)])), (ad 1, .inl (cI, 90, .inl gB)), (ad 2, .inl (cI, 90, .inl gE)), (ad 3, .inl (cI, 90, .inl gC)), (ad 4, .inl (cZ, 90, .inl gO)), (ad 5, .inl (cI, 28, .inl gF)), (ad 6, .inl (cI, 90, .inl gL)), (ad 7, .inl (cI, 28, .inl gV)), (q, .inl (cJ, 1, .inr (.inl w)))]) (w1 := mW cI cZ am mt' mn' mB' mE' mC' mO' mF' mL' mV') hP hD [8, 9, 10, 11, 12, 13, 14, 15] [0, 1, 2, 3, 4, 5, 6, 7, 16] rfl rfl (by decide) (by decide) hk1 hFc hP1 hD1
  subst hw
  exact kk H1 locs1 (hP2.sub [0, 1, 2, 3, 4, 5, 6, 7, 9, 10, 11, 12, 13, 14, 15, 16, 8] rfl) (hD2.sub [0, 1, 2, 3, 4, 5, 6, 7, 9, 10, 11, 12, 13, 14, 15, 16, 8] (by decide) rfl) hS1
set_option maxRecDepth 20000 in
theorem fgLg_v {gB : fg_A} {gE : fg_A} {gC : fg_A} {gO : fg_A} {gn : Int32} {gF : fg_A} {gL : fg_A} {gV : fg_A} {mt : Int32} {mn : Int32} {mB : fg_A} {mE : fg_A} {mC : fg_A} {mO : fg_A} {mF : fg_A} {mL : fg_A} {mV : fg_A} {gB' : fg_A} {gE' : fg_A} {gC' : fg_A} {gO' : fg_A} {gn' : Int32} {gF' : fg_A} {gL' : fg_A} {gV' : fg_A} (hr : va_Run p l e R s m args below meth c H locs cells slots 0 0 (F0 m pc ls st0) rest (gW_Qv dC dI cI cZ ad (va_A (gW cI cZ ad gB gE gC gO gn gF gL gV) H.size) gB' gE' gC' gO' gn' gF' gL' gV' a) (va_A (gW cI cZ ad gB gE gC gO gn gF gL gV) H.size)) (hP : va_P (dC, dI) classes (lW cI cZ cJ ad am q gB gE gC gO gn gF gL gV mt mn mB mE mC mO mF mL mV w) H) (hD : va_D A (lW cI cZ cJ ad am q gB gE gC gO gn gF gL gV mt mn mB mE mC mO mF mL mV w)) (hS : va_S A H0 H locs) (hA : ∀ z, H0.size ≤ z → A z)
    (kk : ∀ (H1 : Heap) (locs1 : List Loc), va_P (dC, dI) classes (lW cI cZ cJ ad am q gB' gE' gC' gO' gn' gF' gL' gV' mt mn mB mE mC mO mF mL mV w) H1 → va_D A (lW cI cZ cJ ad am q gB' gE' gC' gO' gn' gF' gL' gV' mt mn mB mE mC mO mF mL mV w) → va_S A H0 H1 locs1 → W p l e R s m args below meth c H1 locs1 cells slots Q (F0 m (pc + 3) ls rest)) : W p l e R s m args below meth c H locs cells slots Q (F0 m pc ls st0) := by
  have hFc := va_free (wc := gW cI cZ ad gB gE gC gO gn gF gL gV) hD hS hA [0, 1, 2, 3, 4, 5, 6, 7] rfl
  refine va_callv hr hS (fun q _ h => hFc q h) hFc (fun u T H1 locs1 ht hvm hw hB hz1 hk1 hS1 => ?_)
  obtain ⟨hP1, hK1, hD1⟩ := hB
  rw [ht] at hP1
  obtain ⟨hP2, hD2⟩ := va_join (wr := [(am 0, .inr (1, [.int mt, .int mn, .ref (am 1), .ref (am 2), .ref (am 3), .ref (am 4), .ref (am 5), .ref (am 6), .ref (am 7)])), (am 1, .inl (cI, 90, .inl mB)), (am 2, .inl (cI, 90, .inl mE)), (am 3, .inl (cI, 90, .inl mC)), (am 4, .inl (cZ, 90, .inl mO)), (am 5, .inl (cI, 28, .inl mF)), (am 6, .inl (cI, 90, .inl mL)), (am 7, .inl (cI, 28, .inl mV)), (q, .inl (cJ, 1, .inr (.inl w)))]) (w1 := gW cI cZ ad gB' gE' gC' gO' gn' gF' gL' gV') hP hD [0, 1, 2, 3, 4, 5, 6, 7] [8, 9, 10, 11, 12, 13, 14, 15, 16] rfl rfl (by decide) (by decide) hk1 hFc hP1 hD1
  exact kk H1 locs1 (hP2.sub [9, 10, 11, 12, 13, 14, 15, 16, 0, 1, 2, 3, 4, 5, 6, 7, 8] rfl) (hD2.sub [9, 10, 11, 12, 13, 14, 15, 16, 0, 1, 2, 3, 4, 5, 6, 7, 8] (by decide) rfl) hS1
set_option maxRecDepth 20000 in
theorem fgLm_v {gB : fg_A} {gE : fg_A} {gC : fg_A} {gO : fg_A} {gn : Int32} {gF : fg_A} {gL : fg_A} {gV : fg_A} {mt : Int32} {mn : Int32} {mB : fg_A} {mE : fg_A} {mC : fg_A} {mO : fg_A} {mF : fg_A} {mL : fg_A} {mV : fg_A} {mt' : Int32} {mn' : Int32} {mB' : fg_A} {mE' : fg_A} {mC' : fg_A} {mO' : fg_A} {mF' : fg_A} {mL' : fg_A} {mV' : fg_A} (hr : va_Run p l e R s m args below meth c H locs cells slots 0 0 (F0 m pc ls st0) rest (mW_Qv dC dI cI cZ am (va_A (mW cI cZ am mt mn mB mE mC mO mF mL mV) H.size) mt' mn' mB' mE' mC' mO' mF' mL' mV' a) (va_A (mW cI cZ am mt mn mB mE mC mO mF mL mV) H.size)) (hP : va_P (dC, dI) classes (lW cI cZ cJ ad am q gB gE gC gO gn gF gL gV mt mn mB mE mC mO mF mL mV w) H) (hD : va_D A (lW cI cZ cJ ad am q gB gE gC gO gn gF gL gV mt mn mB mE mC mO mF mL mV w)) (hS : va_S A H0 H locs) (hA : ∀ z, H0.size ≤ z → A z)
    (kk : ∀ (H1 : Heap) (locs1 : List Loc), va_P (dC, dI) classes (lW cI cZ cJ ad am q gB gE gC gO gn gF gL gV mt' mn' mB' mE' mC' mO' mF' mL' mV' w) H1 → va_D A (lW cI cZ cJ ad am q gB gE gC gO gn gF gL gV mt' mn' mB' mE' mC' mO' mF' mL' mV' w) → va_S A H0 H1 locs1 → W p l e R s m args below meth c H1 locs1 cells slots Q (F0 m (pc + 3) ls rest)) : W p l e R s m args below meth c H locs cells slots Q (F0 m pc ls st0) := by
  have hFc := va_free (wc := mW cI cZ am mt mn mB mE mC mO mF mL mV) hD hS hA [8, 9, 10, 11, 12, 13, 14, 15] rfl
  refine va_callv hr hS (fun q _ h => hFc q h) hFc (fun u T H1 locs1 ht hvm hw hB hz1 hk1 hS1 => ?_)
  obtain ⟨hP1, hK1, hD1⟩ := hB
  rw [ht] at hP1
  obtain ⟨hP2, hD2⟩ := va_join (wr := [(ad 0, .inr (0, [.ref (ad 1), .ref (ad 2), .ref (ad 3), .ref (ad 4), .int gn, .ref (ad 5), .ref (ad 6), .ref (ad 7)])), (ad 1, .inl (cI, 90, .inl gB)), (ad 2, .inl (cI, 90, .inl gE)), (ad 3, .inl (cI, 90, .inl gC)), (ad 4, .inl (cZ, 90, .inl gO)), (ad 5, .inl (cI, 28, .inl gF)), (ad 6, .inl (cI, 90, .inl gL)), (ad 7, .inl (cI, 28, .inl gV)), (q, .inl (cJ, 1, .inr (.inl w)))]) (w1 := mW cI cZ am mt' mn' mB' mE' mC' mO' mF' mL' mV') hP hD [8, 9, 10, 11, 12, 13, 14, 15] [0, 1, 2, 3, 4, 5, 6, 7, 16] rfl rfl (by decide) (by decide) hk1 hFc hP1 hD1
  exact kk H1 locs1 (hP2.sub [0, 1, 2, 3, 4, 5, 6, 7, 9, 10, 11, 12, 13, 14, 15, 16, 8] rfl) (hD2.sub [0, 1, 2, 3, 4, 5, 6, 7, 9, 10, 11, 12, 13, 14, 15, 16, 8] (by decide) rfl) hS1
end FGL
