section
-- ===== PART A: goes FIRST, ahead of the names: the tables' words, and 'selects' of the private methods out of them =====
/-- a private method of a class that the tables say can be made, by its rows of tables_1 -/
def lw_okq (q : MethodName × Nat) : Prop := (q.1.cls ≠ "java/lang/invoke/MethodHandle" ∧ q.1.cls ≠ "java/lang/invoke/VarHandle") ∧ Cond.instantiable q.1.cls q.2 ∈ tables_1 ∧ Cond.privateMethod q.1 ∈ tables_1 ∧ Cond.instanceMethod q.1 ∈ tables_1
theorem lw_p0 : lw_okq (⟨"FlowGuard", "circleOf", "(I)I"⟩, 8) := ⟨⟨by decide +kernel, by decide +kernel⟩, List.mem_of_getElem? (i := 11) (by decide +kernel), List.mem_of_getElem? (i := 60) (by decide +kernel), List.mem_of_getElem? (i := 61) (by decide +kernel)⟩
theorem lw_p1 : lw_okq (⟨"FlowGuard", "reach", "([I[III)I"⟩, 8) := ⟨⟨by decide +kernel, by decide +kernel⟩, List.mem_of_getElem? (i := 11) (by decide +kernel), List.mem_of_getElem? (i := 64) (by decide +kernel), List.mem_of_getElem? (i := 65) (by decide +kernel)⟩
theorem lw_p2 : lw_okq (⟨"java/lang/Throwable", "fillInStackTrace", "(I)Ljava/lang/Throwable;"⟩, 6) := ⟨⟨by decide +kernel, by decide +kernel⟩, List.mem_of_getElem? (i := 124) (by decide +kernel), List.mem_of_getElem? (i := 122) (by decide +kernel), List.mem_of_getElem? (i := 123) (by decide +kernel)⟩
theorem lw_p3 : lw_okq (⟨"FlowGuard", "measureWaysTo", "(I)V"⟩, 8) := ⟨⟨by decide +kernel, by decide +kernel⟩, List.mem_of_getElem? (i := 11) (by decide +kernel), List.mem_of_getElem? (i := 203) (by decide +kernel), List.mem_of_getElem? (i := 204) (by decide +kernel)⟩
theorem lw_p4 : lw_okq (⟨"FlowGuard", "measureWaysOf", "(I)Z"⟩, 8) := ⟨⟨by decide +kernel, by decide +kernel⟩, List.mem_of_getElem? (i := 11) (by decide +kernel), List.mem_of_getElem? (i := 207) (by decide +kernel), List.mem_of_getElem? (i := 208) (by decide +kernel)⟩
theorem lw_p5 : lw_okq (⟨"FlowGuard", "ruleOfLeastWay", "(II)I"⟩, 8) := ⟨⟨by decide +kernel, by decide +kernel⟩, List.mem_of_getElem? (i := 11) (by decide +kernel), List.mem_of_getElem? (i := 219) (by decide +kernel), List.mem_of_getElem? (i := 220) (by decide +kernel)⟩
theorem lw_p6 : lw_okq (⟨"FlowGuard", "leastRuleOnward", "(I)I"⟩, 8) := ⟨⟨by decide +kernel, by decide +kernel⟩, List.mem_of_getElem? (i := 11) (by decide +kernel), List.mem_of_getElem? (i := 223) (by decide +kernel), List.mem_of_getElem? (i := 224) (by decide +kernel)⟩
theorem lw_p7 : lw_okq (⟨"FlowGuard", "nearSide", "(II)I"⟩, 8) := ⟨⟨by decide +kernel, by decide +kernel⟩, List.mem_of_getElem? (i := 11) (by decide +kernel), List.mem_of_getElem? (i := 248) (by decide +kernel), List.mem_of_getElem? (i := 249) (by decide +kernel)⟩
theorem lw_p8 : lw_okq (⟨"FlowGuard", "spread", "(II)I"⟩, 8) := ⟨⟨by decide +kernel, by decide +kernel⟩, List.mem_of_getElem? (i := 11) (by decide +kernel), List.mem_of_getElem? (i := 252) (by decide +kernel), List.mem_of_getElem? (i := 253) (by decide +kernel)⟩
theorem lw_p9 : lw_okq (⟨"FlowGuard", "spreadByEachRule", "(I)I"⟩, 8) := ⟨⟨by decide +kernel, by decide +kernel⟩, List.mem_of_getElem? (i := 11) (by decide +kernel), List.mem_of_getElem? (i := 256) (by decide +kernel), List.mem_of_getElem? (i := 257) (by decide +kernel)⟩
theorem lw_p10 : lw_okq (⟨"FlowGuard", "pushAlong", "(II)V"⟩, 8) := ⟨⟨by decide +kernel, by decide +kernel⟩, List.mem_of_getElem? (i := 11) (by decide +kernel), List.mem_of_getElem? (i := 260) (by decide +kernel), List.mem_of_getElem? (i := 261) (by decide +kernel)⟩
theorem lw_p11 : lw_okq (⟨"FlowGuard", "roomInto", "(I)I"⟩, 8) := ⟨⟨by decide +kernel, by decide +kernel⟩, List.mem_of_getElem? (i := 11) (by decide +kernel), List.mem_of_getElem? (i := 264) (by decide +kernel), List.mem_of_getElem? (i := 265) (by decide +kernel)⟩
theorem lw_p12 : lw_okq (⟨"FlowGuard", "nodeBefore", "(I)I"⟩, 8) := ⟨⟨by decide +kernel, by decide +kernel⟩, List.mem_of_getElem? (i := 11) (by decide +kernel), List.mem_of_getElem? (i := 271) (by decide +kernel), List.mem_of_getElem? (i := 272) (by decide +kernel)⟩
theorem lw_p13 : lw_okq (⟨"FlowGuard", "pushInto", "(II)V"⟩, 8) := ⟨⟨by decide +kernel, by decide +kernel⟩, List.mem_of_getElem? (i := 11) (by decide +kernel), List.mem_of_getElem? (i := 275) (by decide +kernel), List.mem_of_getElem? (i := 276) (by decide +kernel)⟩
theorem lw_p14 : lw_okq (⟨"FlowGuard", "leaves", "(II)Z"⟩, 8) := ⟨⟨by decide +kernel, by decide +kernel⟩, List.mem_of_getElem? (i := 11) (by decide +kernel), List.mem_of_getElem? (i := 279) (by decide +kernel), List.mem_of_getElem? (i := 280) (by decide +kernel)⟩
theorem lw_p15 : lw_okq (⟨"FlowGuardModel", "refuse", "(ZZ)Z"⟩, 9) := ⟨⟨by decide +kernel, by decide +kernel⟩, List.mem_of_getElem? (i := 298) (by decide +kernel), List.mem_of_getElem? (i := 350) (by decide +kernel), List.mem_of_getElem? (i := 351) (by decide +kernel)⟩
def lw_privs_1 : List (MethodName × Nat) := [(⟨"FlowGuard", "circleOf", "(I)I"⟩, 8), (⟨"FlowGuard", "reach", "([I[III)I"⟩, 8), (⟨"java/lang/Throwable", "fillInStackTrace", "(I)Ljava/lang/Throwable;"⟩, 6), (⟨"FlowGuard", "measureWaysTo", "(I)V"⟩, 8), (⟨"FlowGuard", "measureWaysOf", "(I)Z"⟩, 8), (⟨"FlowGuard", "ruleOfLeastWay", "(II)I"⟩, 8), (⟨"FlowGuard", "leastRuleOnward", "(I)I"⟩, 8), (⟨"FlowGuard", "nearSide", "(II)I"⟩, 8), (⟨"FlowGuard", "spread", "(II)I"⟩, 8), (⟨"FlowGuard", "spreadByEachRule", "(I)I"⟩, 8), (⟨"FlowGuard", "pushAlong", "(II)V"⟩, 8), (⟨"FlowGuard", "roomInto", "(I)I"⟩, 8), (⟨"FlowGuard", "nodeBefore", "(I)I"⟩, 8), (⟨"FlowGuard", "pushInto", "(II)V"⟩, 8), (⟨"FlowGuard", "leaves", "(II)Z"⟩, 8), (⟨"FlowGuardModel", "refuse", "(ZZ)Z"⟩, 9)]
theorem lw_r1 : ∀ q ∈ lw_privs_1, lw_okq q := List.forall_mem_cons.mpr ⟨lw_p0, List.forall_mem_cons.mpr ⟨lw_p1, List.forall_mem_cons.mpr ⟨lw_p2, List.forall_mem_cons.mpr ⟨lw_p3, List.forall_mem_cons.mpr ⟨lw_p4, List.forall_mem_cons.mpr ⟨lw_p5, List.forall_mem_cons.mpr ⟨lw_p6, List.forall_mem_cons.mpr ⟨lw_p7, List.forall_mem_cons.mpr ⟨lw_p8, List.forall_mem_cons.mpr ⟨lw_p9, List.forall_mem_cons.mpr ⟨lw_p10, List.forall_mem_cons.mpr ⟨lw_p11, List.forall_mem_cons.mpr ⟨lw_p12, List.forall_mem_cons.mpr ⟨lw_p13, List.forall_mem_cons.mpr ⟨lw_p14, List.forall_mem_cons.mpr ⟨lw_p15, fun _ h => absurd h List.not_mem_nil⟩⟩⟩⟩⟩⟩⟩⟩⟩⟩⟩⟩⟩⟩⟩⟩
theorem lw_p16 : lw_okq (⟨"FlowGuardModel", "measure", "(II)V"⟩, 9) := ⟨⟨by decide +kernel, by decide +kernel⟩, List.mem_of_getElem? (i := 298) (by decide +kernel), List.mem_of_getElem? (i := 362) (by decide +kernel), List.mem_of_getElem? (i := 363) (by decide +kernel)⟩
theorem lw_p17 : lw_okq (⟨"FlowGuardModel", "circleOf", "(I)I"⟩, 9) := ⟨⟨by decide +kernel, by decide +kernel⟩, List.mem_of_getElem? (i := 298) (by decide +kernel), List.mem_of_getElem? (i := 378) (by decide +kernel), List.mem_of_getElem? (i := 379) (by decide +kernel)⟩
theorem lw_p18 : lw_okq (⟨"FlowGuardModel", "before", "(I)I"⟩, 9) := ⟨⟨by decide +kernel, by decide +kernel⟩, List.mem_of_getElem? (i := 298) (by decide +kernel), List.mem_of_getElem? (i := 382) (by decide +kernel), List.mem_of_getElem? (i := 383) (by decide +kernel)⟩
theorem lw_p19 : lw_okq (⟨"FlowGuardModel", "flow", "(II)I"⟩, 9) := ⟨⟨by decide +kernel, by decide +kernel⟩, List.mem_of_getElem? (i := 298) (by decide +kernel), List.mem_of_getElem? (i := 397) (by decide +kernel), List.mem_of_getElem? (i := 398) (by decide +kernel)⟩
theorem lw_p20 : lw_okq (⟨"FlowGuardModel", "spread", "(I)V"⟩, 9) := ⟨⟨by decide +kernel, by decide +kernel⟩, List.mem_of_getElem? (i := 298) (by decide +kernel), List.mem_of_getElem? (i := 401) (by decide +kernel), List.mem_of_getElem? (i := 402) (by decide +kernel)⟩
theorem lw_p21 : lw_okq (⟨"FlowGuardModel", "push", "(II)V"⟩, 9) := ⟨⟨by decide +kernel, by decide +kernel⟩, List.mem_of_getElem? (i := 298) (by decide +kernel), List.mem_of_getElem? (i := 405) (by decide +kernel), List.mem_of_getElem? (i := 406) (by decide +kernel)⟩
def lw_privs_2 : List (MethodName × Nat) := [(⟨"FlowGuardModel", "measure", "(II)V"⟩, 9), (⟨"FlowGuardModel", "circleOf", "(I)I"⟩, 9), (⟨"FlowGuardModel", "before", "(I)I"⟩, 9), (⟨"FlowGuardModel", "flow", "(II)I"⟩, 9), (⟨"FlowGuardModel", "spread", "(I)V"⟩, 9), (⟨"FlowGuardModel", "push", "(II)V"⟩, 9)]
theorem lw_r2 : ∀ q ∈ lw_privs_2, lw_okq q := List.forall_mem_cons.mpr ⟨lw_p16, List.forall_mem_cons.mpr ⟨lw_p17, List.forall_mem_cons.mpr ⟨lw_p18, List.forall_mem_cons.mpr ⟨lw_p19, List.forall_mem_cons.mpr ⟨lw_p20, List.forall_mem_cons.mpr ⟨lw_p21, fun _ h => absurd h List.not_mem_nil⟩⟩⟩⟩⟩⟩
def lw_privs : List (MethodName × Nat) := lw_privs_1 ++ (lw_privs_2)
def lw_tbl : List Cond := k2_sels lw_privs ++ tables_1
theorem lw_privs_ok : ∀ q ∈ lw_privs, lw_okq q := by
  show ∀ q ∈ lw_privs_1 ++ (lw_privs_2), lw_okq q
  exact List.forall_mem_append.mpr ⟨lw_r1, lw_r2⟩
end
section
/-! The state's words for the class (gW) and for the reference (mW), functions that may have no answer, rows for calls. -/
abbrev fg_A : Type := Nat → Int32
def fg_ob {α β : Type} (x : Option α) (k : α → Option β) : Option β := match x with
  | none => none
  | some a => k a
theorem fg_ob_some {α β : Type} {x : Option α} {k : α → Option β} {b : β} (h : fg_ob x k = some b) : ∃ a, x = some a ∧ k a = some b := by
  cases x with
  | none => exact absurd (show none = some b from h) (by simp)
  | some a => exact ⟨a, rfl, h⟩
def fg_og {β : Type} (c : Bool) (x : Option β) : Option β := match c with
  | true => x
  | false => none
theorem fg_og_some {β : Type} {c : Bool} {x : Option β} {b : β} (h : fg_og c x = some b) : c = true ∧ x = some b := by
  cases c with
  | false => exact absurd (show none = some b from h) (by simp)
  | true => exact ⟨rfl, h⟩
def fg_ot {β : Type} (x y : Option β) : Option β := match x with
  | some a => some a
  | none => y
theorem fg_ot_some {β : Type} {x y : Option β} {b : β} (h : fg_ot x y = some b) : x = some b ∨ (x = none ∧ y = some b) := by
  cases x with
  | none => exact Or.inr ⟨rfl, h⟩
  | some a => exact Or.inl h
def ix (i : Int32) (n : Nat) : Bool := decide (0 ≤ i) && decide (i.toNatClampNeg < n)
theorem ix_in {i : Int32} {n : Nat} (h : ix i n = true) : vp_in i n := by
  unfold ix at h
  rw [Bool.and_eq_true, decide_eq_true_eq, decide_eq_true_eq] at h
  rintro (q | q)
  · exact absurd h.1 (by rw [Int32.le_iff_toInt_le]; rw [Int32.lt_iff_toInt_lt] at q; omega)
  · omega
theorem ix_nI {i n : Nat} (h : i < n) (hn : n < 2 ^ 31) : ix (nI i) n = true := by
  unfold ix
  rw [Bool.and_eq_true, decide_eq_true_eq, decide_eq_true_eq, nI_clamp (by omega)]
  exact ⟨nI_pos' (by omega), h⟩
def nb (x : Int32) : Bool := decide (x = 0) || decide (x = 1)
theorem nb_narrow {x : Int32} (h : nb x = true) : narrow .boolean (.int x) = .int x := by
  unfold nb at h
  rw [Bool.or_eq_true, decide_eq_true_eq, decide_eq_true_eq] at h
  rcases h with rfl | rfl <;> decide
def fu : Nat := 1000
end
section
/-! The methods as functions that may have no answer: laid by program. -/
def f_G_clear (n : Int32) : Option (Int32) := some 0
def f_G_turn (O : fg_A) (n : Int32) (p0 : Int32) (p1 : Int32) : Option (Int32 × fg_A) := if p0 < 0 then none else if p0 < n then fg_og (ix p0 90) (if (O p0.toNatClampNeg) = p1 then fg_og (ix p0 90) (some (1, upd O p0.toNatClampNeg (vp_nar .boolean p1))) else fg_og (ix p0 90) (some (0, upd O p0.toNatClampNeg (vp_nar .boolean p1)))) else none
def f_G_needNode (p0 : Int32) : Option (Unit) := if p0 < 0 then none else if p0 < 28 then some () else none
def f_G_bit (p0 : Int32) : Option (Int32) := some (1 <<< (p0 &&& 31))
def f_G_measureWaysOf_4 (B : fg_A) (E : fg_A) (O : fg_A) (n : Int32) (x1 : Int32) : Nat → Int32 → Int32 → fg_A → Option (Int32 × fg_A)
  | 0, _, _, _ => none
  | k + 1, x2, x3, F => if n ≤ x3 then some (x2, F) else fg_og (ix x3 90) (fg_og (ix x3 90) (if (O x3.toNatClampNeg) = 0 then f_G_measureWaysOf_4 B E O n x1 k x2 (x3 + 1) F else fg_og (ix (B x3.toNatClampNeg) 28) (if (F (B x3.toNatClampNeg).toNatClampNeg) = (-1) then fg_og (ix x3 90) (fg_og (ix (E x3.toNatClampNeg) 28) (if (F (E x3.toNatClampNeg).toNatClampNeg) = (x1 - 1) then fg_og (ix (B x3.toNatClampNeg) 28) (f_G_measureWaysOf_4 B E O n x1 k 1 (x3 + 1) (upd F (B x3.toNatClampNeg).toNatClampNeg x1)) else f_G_measureWaysOf_4 B E O n x1 k x2 (x3 + 1) F)) else f_G_measureWaysOf_4 B E O n x1 k x2 (x3 + 1) F)))
def f_G_measureWaysOf (B : fg_A) (E : fg_A) (O : fg_A) (n : Int32) (F : fg_A) (p0 : Int32) : Option (Int32 × fg_A) := fg_ob (f_G_measureWaysOf_4 B E O n p0 fu 0 0 F) (fun o1 => fg_og (nb o1.1) (some (o1.1, o1.2)))
def f_G_leastRuleOnward_2 (B : fg_A) (E : fg_A) (O : fg_A) (n : Int32) (F : fg_A) (x1 : Int32) : Nat → Int32 → Option (Int32)
  | 0, _ => none
  | k + 1, x2 => if n ≤ x2 then some (-1) else fg_og (ix x2 90) (if (O x2.toNatClampNeg) = 0 then f_G_leastRuleOnward_2 B E O n F x1 k (x2 + 1) else fg_og (ix x2 90) (if (B x2.toNatClampNeg) = x1 then fg_og (ix x2 90) (fg_og (ix (E x2.toNatClampNeg) 28) (fg_og (ix x1 28) (if (F (E x2.toNatClampNeg).toNatClampNeg) = ((F x1.toNatClampNeg) - 1) then some x2 else f_G_leastRuleOnward_2 B E O n F x1 k (x2 + 1)))) else f_G_leastRuleOnward_2 B E O n F x1 k (x2 + 1)))
def f_G_leastRuleOnward (B : fg_A) (E : fg_A) (O : fg_A) (n : Int32) (F : fg_A) (p0 : Int32) : Option (Int32) := f_G_leastRuleOnward_2 B E O n F p0 fu 0
def f_G_nodeBefore (B : fg_A) (E : fg_A) (V : fg_A) (p0 : Int32) : Option (Int32) := fg_og (ix p0 28) (fg_og (ix (V p0.toNatClampNeg) 90) (if (E (V p0.toNatClampNeg).toNatClampNeg) = p0 then fg_og (ix (V p0.toNatClampNeg) 90) (some (B (V p0.toNatClampNeg).toNatClampNeg)) else fg_og (ix (V p0.toNatClampNeg) 90) (some (E (V p0.toNatClampNeg).toNatClampNeg))))
def f_G_roomInto (E : fg_A) (C : fg_A) (L : fg_A) (V : fg_A) (p0 : Int32) : Option (Int32) := fg_og (ix p0 28) (fg_og (ix (V p0.toNatClampNeg) 90) (if (E (V p0.toNatClampNeg).toNatClampNeg) = p0 then fg_og (ix (V p0.toNatClampNeg) 90) (fg_og (ix (V p0.toNatClampNeg) 90) (some ((C (V p0.toNatClampNeg).toNatClampNeg) - (L (V p0.toNatClampNeg).toNatClampNeg)))) else fg_og (ix (V p0.toNatClampNeg) 90) (some (L (V p0.toNatClampNeg).toNatClampNeg))))
def f_G_pushInto (E : fg_A) (L : fg_A) (V : fg_A) (p0 : Int32) (p1 : Int32) : Option (fg_A) := fg_og (ix p0 28) (fg_og (ix (V p0.toNatClampNeg) 90) (fg_og (ix (V p0.toNatClampNeg) 90) (if (E (V p0.toNatClampNeg).toNatClampNeg) = p0 then fg_og (ix (V p0.toNatClampNeg) 90) (some (upd L (V p0.toNatClampNeg).toNatClampNeg ((L (V p0.toNatClampNeg).toNatClampNeg) + p1))) else fg_og (ix (V p0.toNatClampNeg) 90) (some (upd L (V p0.toNatClampNeg).toNatClampNeg ((L (V p0.toNatClampNeg).toNatClampNeg) + (-p1)))))))
def f_G_needNodes (p0 : Int32) (p1 : Int32) : Option (Unit) := fg_ob (f_G_needNode p0) (fun _ => fg_ob (f_G_needNode p1) (fun _ => some ()))
def f_G_has (p0 : Int32) (p1 : Int32) : Option (Int32) := fg_ob (f_G_bit p1) (fun o1 => if (p0 &&& o1) = 0 then some 0 else some 1)
def f_G_measureWaysTo_2 (x1 : Int32) : Nat → Int32 → fg_A → Option (fg_A)
  | 0, _, _ => none
  | k + 1, x2, F => if 28 ≤ x2 then some F else fg_og (ix x2 28) (f_G_measureWaysTo_2 x1 k (x2 + 1) (upd F x2.toNatClampNeg (-1)))
def f_G_measureWaysTo_32 (B : fg_A) (E : fg_A) (O : fg_A) (n : Int32) : Nat → Int32 → Int32 → fg_A → Option (fg_A)
  | 0, _, _, _ => none
  | k + 1, x2, x3, F => if 28 ≤ x3 then some F else if x2 = 0 then some F else fg_ob (f_G_measureWaysOf B E O n F x3) (fun o1 => f_G_measureWaysTo_32 B E O n k o1.1 (x3 + 1) o1.2)
def f_G_measureWaysTo (B : fg_A) (E : fg_A) (O : fg_A) (n : Int32) (F : fg_A) (p0 : Int32) : Option (fg_A) := fg_ob (f_G_measureWaysTo_2 p0 fu 0 F) (fun o1 => fg_og (ix p0 28) (fg_ob (f_G_measureWaysTo_32 B E O n fu 1 1 (upd o1 p0.toNatClampNeg 0)) (fun o2 => some o2)))
def f_G_ruleOfLeastWay_8 (B : fg_A) (E : fg_A) (O : fg_A) (n : Int32) (F : fg_A) (x2 : Int32) : Nat → Int32 → Int32 → Int32 → Option (Int32)
  | 0, _, _, _ => none
  | k + 1, x3, x4, x5 => if x2 < x5 then some x4 else fg_ob (f_G_leastRuleOnward B E O n F x3) (fun o1 => if o1 = (-1) then some (-1) else fg_og (ix o1 90) (f_G_ruleOfLeastWay_8 B E O n F x2 k (E o1.toNatClampNeg) o1 (x5 + 1)))
def f_G_ruleOfLeastWay (B : fg_A) (E : fg_A) (O : fg_A) (n : Int32) (F : fg_A) (p0 : Int32) (p1 : Int32) : Option (Int32) := f_G_ruleOfLeastWay_8 B E O n F p1 fu p0 (-1) 0
def f_G_pushAlong_9 (B : fg_A) (E : fg_A) (C : fg_A) (L : fg_A) (V : fg_A) (x1 : Int32) (x2 : Int32) : Nat → Int32 → Int32 → Int32 → Option (Int32)
  | 0, _, _, _ => none
  | k + 1, x3, x4, x5 => if 28 ≤ x5 then some x3 else if x4 = x1 then some x3 else fg_ob (f_G_roomInto E C L V x4) (fun o1 => fg_ob (f_G_nodeBefore B E V x4) (fun o2 => f_G_pushAlong_9 B E C L V x1 x2 k (if o1 < x3 then o1 else x3) o2 (x5 + 1)))
def f_G_pushAlong_53 (B : fg_A) (E : fg_A) (V : fg_A) (x1 : Int32) (x3 : Int32) : Nat → Int32 → Int32 → fg_A → Option (fg_A)
  | 0, _, _, _ => none
  | k + 1, x4, x5, L => if 28 ≤ x5 then some L else if x4 = x1 then some L else fg_ob (f_G_pushInto E L V x4 x3) (fun o1 => fg_ob (f_G_nodeBefore B E V x4) (fun o2 => f_G_pushAlong_53 B E V x1 x3 k o2 (x5 + 1) o1))
def f_G_pushAlong (B : fg_A) (E : fg_A) (C : fg_A) (L : fg_A) (V : fg_A) (p0 : Int32) (p1 : Int32) : Option (fg_A) := fg_ob (f_G_pushAlong_9 B E C L V p0 p1 fu 9 p1 0) (fun o1 => fg_ob (f_G_pushAlong_53 B E V p0 o1 fu p1 0 L) (fun o2 => some o2))
def f_G_length (B : fg_A) (E : fg_A) (O : fg_A) (n : Int32) (F : fg_A) (p0 : Int32) (p1 : Int32) : Option (Int32 × fg_A) := fg_ob (f_G_needNodes p0 p1) (fun _ => fg_ob (f_G_measureWaysTo B E O n F p1) (fun o2 => fg_og (ix p0 28) (some (o2 p0.toNatClampNeg, o2))))
def f_G_step (B : fg_A) (E : fg_A) (O : fg_A) (n : Int32) (F : fg_A) (p0 : Int32) (p1 : Int32) (p2 : Int32) : Option (Int32 × fg_A) := fg_ob (f_G_needNodes p0 p1) (fun _ => fg_ob (f_G_measureWaysTo B E O n F p1) (fun o2 => if p2 < 0 then none else fg_og (ix p0 28) (if p2 < (o2 p0.toNatClampNeg) then fg_ob (f_G_ruleOfLeastWay B E O n o2 p0 p2) (fun o3 => some (o3, o2)) else none)))
def f_G_needUnlikeNodes (p0 : Int32) (p1 : Int32) : Option (Unit) := fg_ob (f_G_needNodes p0 p1) (fun _ => if p0 = p1 then none else some ())
def f_G_reach_33 (B : fg_A) (E : fg_A) (O : fg_A) (n : Int32) (x4 : Int32) (x6 : Int32) (x7 : Int32) : Nat → Int32 → Int32 → Option (Int32)
  | 0, _, _ => none
  | k + 1, x5, x8 => if n ≤ x8 then some x5 else fg_og (ix x8 90) (if (O x8.toNatClampNeg) = 0 then f_G_reach_33 B E O n x4 x6 x7 k x5 (x8 + 1) else fg_og (ix x8 90) (fg_ob (f_G_has x5 (B x8.toNatClampNeg)) (fun o1 => if o1 = 0 then f_G_reach_33 B E O n x4 x6 x7 k x5 (x8 + 1) else fg_og (ix x8 90) (fg_ob (f_G_has x4 (E x8.toNatClampNeg)) (fun o2 => if o2 = 0 then fg_og (ix x8 90) (fg_ob (f_G_bit (E x8.toNatClampNeg)) (fun o3 => f_G_reach_33 B E O n x4 x6 x7 k (x5 ||| o3) (x8 + 1))) else f_G_reach_33 B E O n x4 x6 x7 k x5 (x8 + 1))))))
def f_G_reach_12 (B : fg_A) (E : fg_A) (O : fg_A) (n : Int32) (x4 : Int32) : Nat → Int32 → Int32 → Int32 → Option (Int32)
  | 0, _, _, _ => none
  | k + 1, x5, x6, x7 => if 28 ≤ x7 then some x5 else if x5 = x6 then some x5 else fg_ob (f_G_reach_33 B E O n x4 x5 x7 fu x5 0) (fun o1 => f_G_reach_12 B E O n x4 k o1 x5 (x7 + 1))
def f_G_reach (B : fg_A) (E : fg_A) (O : fg_A) (n : Int32) (p2 : Int32) (p3 : Int32) : Option (Int32) := fg_ob (f_G_bit p2) (fun o1 => fg_ob (f_G_reach_12 B E O n p3 fu o1 0 0) (fun o2 => some o2))
def f_G_leaves (B : fg_A) (E : fg_A) (O : fg_A) (p0 : Int32) (p1 : Int32) : Option (Int32) := fg_og (ix p0 90) (if (O p0.toNatClampNeg) = 0 then some 0 else fg_og (ix p0 90) (fg_ob (f_G_has p1 (B p0.toNatClampNeg)) (fun o1 => if o1 = 0 then some 0 else fg_og (ix p0 90) (fg_ob (f_G_has p1 (E p0.toNatClampNeg)) (fun o2 => if o2 = 0 then some 1 else some 0)))))
def f_G_spreadByEachRule_4 (B : fg_A) (E : fg_A) (C : fg_A) (O : fg_A) (n : Int32) (L : fg_A) : Nat → Int32 → Int32 → fg_A → Option (Int32 × fg_A)
  | 0, _, _, _ => none
  | k + 1, x2, x3, V => if n ≤ x3 then some (x2, V) else fg_og (ix x3 90) (fg_og (ix x3 90) (fg_ob (f_G_has x2 (B x3.toNatClampNeg)) (fun o1 => fg_ob (f_G_has x2 (E x3.toNatClampNeg)) (fun o2 => if o1 = 0 then if o2 = 0 then f_G_spreadByEachRule_4 B E C O n L k x2 (x3 + 1) V else if o1 = 0 then fg_og (ix x3 90) (if (L x3.toNatClampNeg) ≤ 0 then f_G_spreadByEachRule_4 B E C O n L k x2 (x3 + 1) V else fg_ob (f_G_bit (B x3.toNatClampNeg)) (fun o3 => fg_og (ix (B x3.toNatClampNeg) 28) (f_G_spreadByEachRule_4 B E C O n L k (x2 ||| o3) (x3 + 1) (upd V (B x3.toNatClampNeg).toNatClampNeg x3)))) else f_G_spreadByEachRule_4 B E C O n L k x2 (x3 + 1) V else if o2 = 0 then fg_og (ix x3 90) (if (O x3.toNatClampNeg) = 0 then if o2 = 0 then f_G_spreadByEachRule_4 B E C O n L k x2 (x3 + 1) V else if o1 = 0 then fg_og (ix x3 90) (if (L x3.toNatClampNeg) ≤ 0 then f_G_spreadByEachRule_4 B E C O n L k x2 (x3 + 1) V else fg_ob (f_G_bit (B x3.toNatClampNeg)) (fun o5 => fg_og (ix (B x3.toNatClampNeg) 28) (f_G_spreadByEachRule_4 B E C O n L k (x2 ||| o5) (x3 + 1) (upd V (B x3.toNatClampNeg).toNatClampNeg x3)))) else f_G_spreadByEachRule_4 B E C O n L k x2 (x3 + 1) V else fg_og (ix x3 90) (fg_og (ix x3 90) (if (C x3.toNatClampNeg) ≤ (L x3.toNatClampNeg) then if o2 = 0 then f_G_spreadByEachRule_4 B E C O n L k x2 (x3 + 1) V else if o1 = 0 then fg_og (ix x3 90) (if (L x3.toNatClampNeg) ≤ 0 then f_G_spreadByEachRule_4 B E C O n L k x2 (x3 + 1) V else fg_ob (f_G_bit (B x3.toNatClampNeg)) (fun o6 => fg_og (ix (B x3.toNatClampNeg) 28) (f_G_spreadByEachRule_4 B E C O n L k (x2 ||| o6) (x3 + 1) (upd V (B x3.toNatClampNeg).toNatClampNeg x3)))) else f_G_spreadByEachRule_4 B E C O n L k x2 (x3 + 1) V else fg_ob (f_G_bit (E x3.toNatClampNeg)) (fun o7 => fg_og (ix (E x3.toNatClampNeg) 28) (f_G_spreadByEachRule_4 B E C O n L k (x2 ||| o7) (x3 + 1) (upd V (E x3.toNatClampNeg).toNatClampNeg x3)))))) else if o2 = 0 then f_G_spreadByEachRule_4 B E C O n L k x2 (x3 + 1) V else if o1 = 0 then fg_og (ix x3 90) (if (L x3.toNatClampNeg) ≤ 0 then f_G_spreadByEachRule_4 B E C O n L k x2 (x3 + 1) V else fg_ob (f_G_bit (B x3.toNatClampNeg)) (fun o4 => fg_og (ix (B x3.toNatClampNeg) 28) (f_G_spreadByEachRule_4 B E C O n L k (x2 ||| o4) (x3 + 1) (upd V (B x3.toNatClampNeg).toNatClampNeg x3)))) else f_G_spreadByEachRule_4 B E C O n L k x2 (x3 + 1) V))))
def f_G_spreadByEachRule (B : fg_A) (E : fg_A) (C : fg_A) (O : fg_A) (n : Int32) (L : fg_A) (V : fg_A) (p0 : Int32) : Option (Int32 × fg_A) := fg_ob (f_G_spreadByEachRule_4 B E C O n L fu p0 0 V) (fun o1 => some (o1.1, o1.2))
def f_G_rule (B : fg_A) (E : fg_A) (C : fg_A) (O : fg_A) (n : Int32) (p0 : Int32) (p1 : Int32) (p2 : Int32) : Option (Int32 × fg_A × fg_A × fg_A × fg_A × Int32) := fg_ob (f_G_needUnlikeNodes p0 p1) (fun _ => if p2 < 1 then none else if p2 ≤ 9 then if n < 90 then fg_og (ix n 90) (fg_og (ix n 90) (fg_og (ix n 90) (fg_og (ix n 90) (some (n, upd B n.toNatClampNeg p0, upd E n.toNatClampNeg p1, upd C n.toNatClampNeg p2, upd O n.toNatClampNeg (vp_nar .boolean 1), n + 1))))) else none else none)
def f_G_passed_36 (B : fg_A) (E : fg_A) (O : fg_A) (n : Int32) (x1 : Int32) (x2 : Int32) (x3 : Int32) : Nat → Int32 → Int32 → Option (Int32)
  | 0, _, _ => none
  | k + 1, x4, x5 => if 28 ≤ x5 then some x4 else if x5 = x1 then f_G_passed_36 B E O n x1 x2 x3 k x4 (x5 + 1) else if x5 = x2 then f_G_passed_36 B E O n x1 x2 x3 k x4 (x5 + 1) else fg_ob (f_G_has x3 x5) (fun o1 => if o1 = 0 then f_G_passed_36 B E O n x1 x2 x3 k x4 (x5 + 1) else fg_ob (f_G_bit x5) (fun o2 => fg_ob (f_G_reach B E O n x1 o2) (fun o3 => fg_ob (f_G_has o3 x2) (fun o4 => if o4 = 0 then fg_ob (f_G_bit x5) (fun o5 => f_G_passed_36 B E O n x1 x2 x3 k (x4 ||| o5) (x5 + 1)) else f_G_passed_36 B E O n x1 x2 x3 k x4 (x5 + 1)))))
def f_G_passed (B : fg_A) (E : fg_A) (O : fg_A) (n : Int32) (p0 : Int32) (p1 : Int32) : Option (Int32) := fg_ob (f_G_needNodes p0 p1) (fun _ => fg_ob (f_G_reach B E O n p0 0) (fun o2 => fg_ob (f_G_has o2 p1) (fun o3 => if o3 = 0 then some 0 else fg_ob (f_G_passed_36 B E O n p0 p1 o2 fu 0 0) (fun o4 => some o4))))
def f_G_circleOf (B : fg_A) (E : fg_A) (O : fg_A) (n : Int32) (p0 : Int32) : Option (Int32) := fg_ob (f_G_reach B E O n p0 0) (fun o1 => fg_ob (f_G_reach E B O n p0 0) (fun o2 => some (o1 &&& o2)))
def f_G_spread_11 (B : fg_A) (E : fg_A) (C : fg_A) (O : fg_A) (n : Int32) (L : fg_A) (x2 : Int32) : Nat → Int32 → Int32 → Int32 → fg_A → Option (Int32 × fg_A)
  | 0, _, _, _, _ => none
  | k + 1, x3, x4, x5, V => if 28 ≤ x5 then some (x3, V) else if x3 = x4 then some (x3, V) else fg_ob (f_G_has x3 x2) (fun o1 => if o1 = 0 then fg_ob (f_G_spreadByEachRule B E C O n L V x3) (fun o2 => f_G_spread_11 B E C O n L x2 k o2.1 x3 (x5 + 1) o2.2) else some (x3, V))
def f_G_spread (B : fg_A) (E : fg_A) (C : fg_A) (O : fg_A) (n : Int32) (L : fg_A) (V : fg_A) (p0 : Int32) (p1 : Int32) : Option (Int32 × fg_A) := fg_ob (f_G_bit p0) (fun o1 => fg_ob (f_G_spread_11 B E C O n L p1 fu o1 0 0 V) (fun o2 => some (o2.1, o2.2)))
def f_G_circle (B : fg_A) (E : fg_A) (O : fg_A) (n : Int32) (p0 : Int32) : Option (Int32) := fg_ob (f_G_needNode p0) (fun _ => fg_ob (f_G_circleOf B E O n p0) (fun o2 => some o2))
def f_G_circles_6 (B : fg_A) (E : fg_A) (O : fg_A) (n : Int32) : Nat → Int32 → Int32 → Int32 → Option (Int32)
  | 0, _, _, _ => none
  | k + 1, x1, x2, x3 => if 28 ≤ x3 then some x2 else fg_ob (f_G_has x1 x3) (fun o1 => if o1 = 0 then fg_ob (f_G_circleOf B E O n x3) (fun o2 => f_G_circles_6 B E O n k (x1 ||| o2) (x2 + 1) (x3 + 1)) else f_G_circles_6 B E O n k x1 x2 (x3 + 1))
def f_G_circles (B : fg_A) (E : fg_A) (O : fg_A) (n : Int32) : Option (Int32) := fg_ob (f_G_circles_6 B E O n fu 0 0 0) (fun o1 => some o1)
def f_G_nearSide_2 (n : Int32) (x1 : Int32) (x2 : Int32) : Nat → Int32 → fg_A → Option (fg_A)
  | 0, _, _ => none
  | k + 1, x3, L => if n ≤ x3 then some L else fg_og (ix x3 90) (f_G_nearSide_2 n x1 x2 k (x3 + 1) (upd L x3.toNatClampNeg 0))
def f_G_nearSide_33 (B : fg_A) (E : fg_A) (C : fg_A) (O : fg_A) (n : Int32) (x1 : Int32) (x2 : Int32) : Nat → Int32 → Int32 → fg_A → fg_A → Option (Int32 × fg_A × fg_A)
  | 0, _, _, _, _ => none
  | k + 1, x3, x4, L, V => if 810 ≤ x4 then some (x3, L, V) else fg_ob (f_G_has x3 x2) (fun o1 => if o1 = 0 then some (x3, L, V) else fg_ob (f_G_pushAlong B E C L V x1 x2) (fun o2 => fg_ob (f_G_spread B E C O n o2 V x1 x2) (fun o3 => f_G_nearSide_33 B E C O n x1 x2 k o3.1 (x4 + 1) o2 o3.2)))
def f_G_nearSide (B : fg_A) (E : fg_A) (C : fg_A) (O : fg_A) (n : Int32) (L : fg_A) (V : fg_A) (p0 : Int32) (p1 : Int32) : Option (Int32 × fg_A × fg_A) := fg_ob (f_G_nearSide_2 n p0 p1 fu 0 L) (fun o1 => fg_ob (f_G_spread B E C O n o1 V p0 p1) (fun o2 => fg_ob (f_G_nearSide_33 B E C O n p0 p1 fu o2.1 0 o1 o2.2) (fun o3 => some (o3.1, o3.2.1, o3.2.2))))
def f_G_cut_18 (B : fg_A) (E : fg_A) (C : fg_A) (O : fg_A) (n : Int32) (x3 : Int32) : Nat → Int32 → Int32 → Option (Int32)
  | 0, _, _ => none
  | k + 1, x4, x5 => if n ≤ x5 then some x4 else fg_ob (f_G_leaves B E O x5 x3) (fun o1 => if o1 = 0 then f_G_cut_18 B E C O n x3 k x4 (x5 + 1) else fg_og (ix x5 90) (f_G_cut_18 B E C O n x3 k (x4 + (C x5.toNatClampNeg)) (x5 + 1)))
def f_G_cut (B : fg_A) (E : fg_A) (C : fg_A) (O : fg_A) (n : Int32) (L : fg_A) (V : fg_A) (p0 : Int32) (p1 : Int32) : Option (Int32 × fg_A × fg_A) := fg_ob (f_G_needUnlikeNodes p0 p1) (fun _ => fg_ob (f_G_nearSide B E C O n L V p0 p1) (fun o2 => fg_ob (f_G_cut_18 B E C O n o2.1 fu 0 0) (fun o3 => some (o3, o2.2.1, o2.2.2))))
def f_G_cutRule_33 (B : fg_A) (E : fg_A) (C : fg_A) (O : fg_A) (n : Int32) (L : fg_A) (V : fg_A) (x3 : Int32) (x4 : Int32) : Nat → Int32 → Int32 → Option (Int32 × fg_A × fg_A)
  | 0, _, _ => none
  | k + 1, x5, x6 => if n ≤ x6 then some ((-1), L, V) else fg_ob (f_G_leaves B E O x6 x4) (fun o1 => if o1 = 0 then f_G_cutRule_33 B E C O n L V x3 x4 k x5 (x6 + 1) else if x5 = x3 then some (x6, L, V) else f_G_cutRule_33 B E C O n L V x3 x4 k (x5 + 1) (x6 + 1))
def f_G_cutRule (B : fg_A) (E : fg_A) (C : fg_A) (O : fg_A) (n : Int32) (L : fg_A) (V : fg_A) (p0 : Int32) (p1 : Int32) (p2 : Int32) : Option (Int32 × fg_A × fg_A) := fg_ob (f_G_needUnlikeNodes p0 p1) (fun _ => if 0 ≤ p2 then fg_ob (f_G_nearSide B E C O n L V p0 p1) (fun o2 => f_G_cutRule_33 B E C O n o2.2.1 o2.2.2 p2 o2.1 fu 0 0) else none)
def f_G_left (B : fg_A) (E : fg_A) (C : fg_A) (O : fg_A) (n : Int32) (L : fg_A) (V : fg_A) (p0 : Int32) (p1 : Int32) : Option (Int32 × fg_A × fg_A) := fg_ob (f_G_needUnlikeNodes p0 p1) (fun _ => fg_ob (f_G_nearSide B E C O n L V p0 p1) (fun o2 => some (o2.1, o2.2.1, o2.2.2)))
def f_M_thrown (t : Int32) : Option (Int32) := some t
def f_M_refuse (t : Int32) (p0 : Int32) (p1 : Int32) : Option (Int32 × Int32) := if p0 = 0 then if p1 = 0 then some (0, 0) else some (1, 2) else some (1, 1)
def f_M_in (p0 : Int32) (p1 : Int32) (p2 : Int32) : Option (Int32) := if p0 < p1 then some 0 else if p2 < p0 then some 0 else some 1
def f_M_clear (t : Int32) (n : Int32) : Option (Int32 × Int32) := some (0, 0)
def f_M_measure_2 (x1 : Int32) (x2 : Int32) : Nat → Int32 → fg_A → Option (fg_A)
  | 0, _, _ => none
  | k + 1, x3, F => if 28 ≤ x3 then some F else fg_og (ix x3 28) (f_M_measure_2 x1 x2 k (x3 + 1) (upd F x3.toNatClampNeg (-1)))
def f_M_measure_42 (n : Int32) (B : fg_A) (E : fg_A) (O : fg_A) (x2 : Int32) (x4 : Int32) : Nat → Int32 → Int32 → fg_A → Option (Int32 × fg_A)
  | 0, _, _, _ => none
  | k + 1, x3, x5, F => if n ≤ x5 then some (x3, F) else fg_og (ix x5 90) (if (O x5.toNatClampNeg) = 0 then f_M_measure_42 n B E O x2 x4 k x3 (x5 + 1) F else fg_og (ix x5 90) (fg_og (ix (E x5.toNatClampNeg) 28) (if (F (E x5.toNatClampNeg).toNatClampNeg) = x4 then fg_og (ix x5 90) (fg_og (ix (B x5.toNatClampNeg) 28) (if 0 ≤ (F (B x5.toNatClampNeg).toNatClampNeg) then f_M_measure_42 n B E O x2 x4 k x3 (x5 + 1) F else fg_og (ix x5 90) (if (B x5.toNatClampNeg) = x2 then f_M_measure_42 n B E O x2 x4 k x3 (x5 + 1) F else fg_og (ix x5 90) (if (E x5.toNatClampNeg) = x2 then f_M_measure_42 n B E O x2 x4 k x3 (x5 + 1) F else fg_og (ix x5 90) (fg_og (ix (B x5.toNatClampNeg) 28) (f_M_measure_42 n B E O x2 x4 k 1 (x5 + 1) (upd F (B x5.toNatClampNeg).toNatClampNeg (x4 + 1)))))))) else f_M_measure_42 n B E O x2 x4 k x3 (x5 + 1) F)))
def f_M_measure_33 (n : Int32) (B : fg_A) (E : fg_A) (O : fg_A) (x2 : Int32) : Nat → Int32 → Int32 → fg_A → Option (fg_A)
  | 0, _, _, _ => none
  | k + 1, x3, x4, F => if x3 = 0 then some F else fg_ob (f_M_measure_42 n B E O x2 x4 fu 0 0 F) (fun o1 => f_M_measure_33 n B E O x2 k o1.1 (x4 + 1) o1.2)
def f_M_measure (n : Int32) (B : fg_A) (E : fg_A) (O : fg_A) (F : fg_A) (p0 : Int32) (p1 : Int32) : Option (fg_A) := fg_ob (f_M_measure_2 p0 p1 fu 0 F) (fun o1 => fg_og (ix p0 28) (fg_ob (f_M_measure_33 n B E O p1 fu 1 0 (upd o1 p0.toNatClampNeg 0)) (fun o2 => some o2)))
def f_M_spread_2 (x1 : Int32) : Nat → Int32 → fg_A → Option (fg_A)
  | 0, _, _ => none
  | k + 1, x2, V => if 28 ≤ x2 then some V else fg_og (ix x2 28) (f_M_spread_2 x1 k (x2 + 1) (upd V x2.toNatClampNeg 0))
def f_M_spread_38 (n : Int32) (B : fg_A) (E : fg_A) (C : fg_A) (O : fg_A) (L : fg_A) : Nat → Int32 → Int32 → fg_A → Option (Int32 × fg_A)
  | 0, _, _, _ => none
  | k + 1, x2, x3, V => if n ≤ x3 then some (x2, V) else fg_og (ix x3 90) (if (O x3.toNatClampNeg) = 0 then fg_og (ix x3 90) (if (O x3.toNatClampNeg) = 0 then f_M_spread_38 n B E C O L k x2 (x3 + 1) V else fg_og (ix x3 90) (fg_og (ix (E x3.toNatClampNeg) 28) (if (V (E x3.toNatClampNeg).toNatClampNeg) ≤ 0 then f_M_spread_38 n B E C O L k x2 (x3 + 1) V else fg_og (ix x3 90) (fg_og (ix (B x3.toNatClampNeg) 28) (if (V (B x3.toNatClampNeg).toNatClampNeg) = 0 then fg_og (ix x3 90) (if (L x3.toNatClampNeg) ≤ 0 then f_M_spread_38 n B E C O L k x2 (x3 + 1) V else fg_og (ix x3 90) (fg_og (ix (B x3.toNatClampNeg) 28) (f_M_spread_38 n B E C O L k 1 (x3 + 1) (upd V (B x3.toNatClampNeg).toNatClampNeg (3 + (2 * x3)))))) else f_M_spread_38 n B E C O L k x2 (x3 + 1) V))))) else fg_og (ix x3 90) (fg_og (ix (B x3.toNatClampNeg) 28) (if (V (B x3.toNatClampNeg).toNatClampNeg) ≤ 0 then fg_og (ix x3 90) (if (O x3.toNatClampNeg) = 0 then f_M_spread_38 n B E C O L k x2 (x3 + 1) V else fg_og (ix x3 90) (fg_og (ix (E x3.toNatClampNeg) 28) (if (V (E x3.toNatClampNeg).toNatClampNeg) ≤ 0 then f_M_spread_38 n B E C O L k x2 (x3 + 1) V else fg_og (ix x3 90) (fg_og (ix (B x3.toNatClampNeg) 28) (if (V (B x3.toNatClampNeg).toNatClampNeg) = 0 then fg_og (ix x3 90) (if (L x3.toNatClampNeg) ≤ 0 then f_M_spread_38 n B E C O L k x2 (x3 + 1) V else fg_og (ix x3 90) (fg_og (ix (B x3.toNatClampNeg) 28) (f_M_spread_38 n B E C O L k 1 (x3 + 1) (upd V (B x3.toNatClampNeg).toNatClampNeg (3 + (2 * x3)))))) else f_M_spread_38 n B E C O L k x2 (x3 + 1) V))))) else fg_og (ix x3 90) (fg_og (ix (E x3.toNatClampNeg) 28) (if (V (E x3.toNatClampNeg).toNatClampNeg) = 0 then fg_og (ix x3 90) (fg_og (ix x3 90) (if (C x3.toNatClampNeg) ≤ (L x3.toNatClampNeg) then fg_og (ix x3 90) (if (O x3.toNatClampNeg) = 0 then f_M_spread_38 n B E C O L k x2 (x3 + 1) V else fg_og (ix x3 90) (fg_og (ix (E x3.toNatClampNeg) 28) (if (V (E x3.toNatClampNeg).toNatClampNeg) ≤ 0 then f_M_spread_38 n B E C O L k x2 (x3 + 1) V else fg_og (ix x3 90) (fg_og (ix (B x3.toNatClampNeg) 28) (if (V (B x3.toNatClampNeg).toNatClampNeg) = 0 then fg_og (ix x3 90) (if (L x3.toNatClampNeg) ≤ 0 then f_M_spread_38 n B E C O L k x2 (x3 + 1) V else fg_og (ix x3 90) (fg_og (ix (B x3.toNatClampNeg) 28) (f_M_spread_38 n B E C O L k 1 (x3 + 1) (upd V (B x3.toNatClampNeg).toNatClampNeg (3 + (2 * x3)))))) else f_M_spread_38 n B E C O L k x2 (x3 + 1) V))))) else fg_og (ix x3 90) (fg_og (ix (E x3.toNatClampNeg) 28) (fg_og (ix x3 90) (if (O x3.toNatClampNeg) = 0 then f_M_spread_38 n B E C O L k 1 (x3 + 1) (upd V (E x3.toNatClampNeg).toNatClampNeg (2 + (2 * x3))) else fg_og (ix x3 90) (fg_og (ix (E x3.toNatClampNeg) 28) (if ((upd V (E x3.toNatClampNeg).toNatClampNeg (2 + (2 * x3))) (E x3.toNatClampNeg).toNatClampNeg) ≤ 0 then f_M_spread_38 n B E C O L k 1 (x3 + 1) (upd V (E x3.toNatClampNeg).toNatClampNeg (2 + (2 * x3))) else fg_og (ix x3 90) (fg_og (ix (B x3.toNatClampNeg) 28) (if ((upd V (E x3.toNatClampNeg).toNatClampNeg (2 + (2 * x3))) (B x3.toNatClampNeg).toNatClampNeg) = 0 then fg_og (ix x3 90) (if (L x3.toNatClampNeg) ≤ 0 then f_M_spread_38 n B E C O L k 1 (x3 + 1) (upd V (E x3.toNatClampNeg).toNatClampNeg (2 + (2 * x3))) else fg_og (ix x3 90) (fg_og (ix (B x3.toNatClampNeg) 28) (f_M_spread_38 n B E C O L k 1 (x3 + 1) (upd (upd V (E x3.toNatClampNeg).toNatClampNeg (2 + (2 * x3))) (B x3.toNatClampNeg).toNatClampNeg (3 + (2 * x3)))))) else f_M_spread_38 n B E C O L k 1 (x3 + 1) (upd V (E x3.toNatClampNeg).toNatClampNeg (2 + (2 * x3)))))))))))) else fg_og (ix x3 90) (if (O x3.toNatClampNeg) = 0 then f_M_spread_38 n B E C O L k x2 (x3 + 1) V else fg_og (ix x3 90) (fg_og (ix (E x3.toNatClampNeg) 28) (if (V (E x3.toNatClampNeg).toNatClampNeg) ≤ 0 then f_M_spread_38 n B E C O L k x2 (x3 + 1) V else fg_og (ix x3 90) (fg_og (ix (B x3.toNatClampNeg) 28) (if (V (B x3.toNatClampNeg).toNatClampNeg) = 0 then fg_og (ix x3 90) (if (L x3.toNatClampNeg) ≤ 0 then f_M_spread_38 n B E C O L k x2 (x3 + 1) V else fg_og (ix x3 90) (fg_og (ix (B x3.toNatClampNeg) 28) (f_M_spread_38 n B E C O L k 1 (x3 + 1) (upd V (B x3.toNatClampNeg).toNatClampNeg (3 + (2 * x3)))))) else f_M_spread_38 n B E C O L k x2 (x3 + 1) V))))))))))
def f_M_spread_30 (n : Int32) (B : fg_A) (E : fg_A) (C : fg_A) (O : fg_A) (L : fg_A) : Nat → Int32 → fg_A → Option (fg_A)
  | 0, _, _ => none
  | k + 1, x2, V => if x2 = 0 then some V else fg_ob (f_M_spread_38 n B E C O L fu 0 0 V) (fun o1 => f_M_spread_30 n B E C O L k o1.1 o1.2)
def f_M_spread (n : Int32) (B : fg_A) (E : fg_A) (C : fg_A) (O : fg_A) (L : fg_A) (V : fg_A) (p0 : Int32) : Option (fg_A) := fg_ob (f_M_spread_2 p0 fu 0 V) (fun o1 => fg_og (ix p0 28) (fg_ob (f_M_spread_30 n B E C O L fu 1 (upd o1 p0.toNatClampNeg 1)) (fun o2 => some o2)))
def f_M_push_2 (B : fg_A) (E : fg_A) (V : fg_A) (x1 : Int32) : Nat → Int32 → fg_A → Option (fg_A)
  | 0, _, _ => none
  | k + 1, x3, L => if x3 = x1 then some L else fg_og (ix x3 28) (fg_og (ix x3 28) (if ((V x3.toNatClampNeg) - (V x3.toNatClampNeg) / 2 * 2) = 1 then fg_og (ix (((V x3.toNatClampNeg) - 2) / 2) 90) (fg_og (ix (((V x3.toNatClampNeg) - 2) / 2) 90) (fg_og (ix (((V x3.toNatClampNeg) - 2) / 2) 90) (f_M_push_2 B E V x1 k (E (((V x3.toNatClampNeg) - 2) / 2).toNatClampNeg) (upd L (((V x3.toNatClampNeg) - 2) / 2).toNatClampNeg ((L (((V x3.toNatClampNeg) - 2) / 2).toNatClampNeg) - 1))))) else fg_og (ix (((V x3.toNatClampNeg) - 2) / 2) 90) (fg_og (ix (((V x3.toNatClampNeg) - 2) / 2) 90) (fg_og (ix (((V x3.toNatClampNeg) - 2) / 2) 90) (f_M_push_2 B E V x1 k (B (((V x3.toNatClampNeg) - 2) / 2).toNatClampNeg) (upd L (((V x3.toNatClampNeg) - 2) / 2).toNatClampNeg ((L (((V x3.toNatClampNeg) - 2) / 2).toNatClampNeg) + 1)))))))
def f_M_push (B : fg_A) (E : fg_A) (L : fg_A) (V : fg_A) (p0 : Int32) (p1 : Int32) : Option (fg_A) := fg_ob (f_M_push_2 B E V p0 fu p1 L) (fun o1 => some o1)
def f_M_isNode (p0 : Int32) : Option (Int32) := fg_ob (f_M_in p0 0 27) (fun o1 => fg_og (nb o1) (some o1))
def f_M_turn (t : Int32) (n : Int32) (O : fg_A) (p0 : Int32) (p1 : Int32) : Option (Int32 × Int32 × fg_A) := fg_ob (f_M_in p0 0 (n - 1)) (fun o1 => if o1 = 0 then fg_ob (f_M_refuse t 1 0) (fun o3 => if o3.1 = 0 then fg_og (ix p0 90) (if (O p0.toNatClampNeg) = p1 then fg_og (ix p0 90) (some (1, o3.2, upd O p0.toNatClampNeg (vp_nar .boolean p1))) else fg_og (ix p0 90) (some (0, o3.2, upd O p0.toNatClampNeg (vp_nar .boolean p1)))) else some (0, o3.2, O)) else fg_ob (f_M_refuse t 0 0) (fun o2 => if o2.1 = 0 then fg_og (ix p0 90) (if (O p0.toNatClampNeg) = p1 then fg_og (ix p0 90) (some (1, o2.2, upd O p0.toNatClampNeg (vp_nar .boolean p1))) else fg_og (ix p0 90) (some (0, o2.2, upd O p0.toNatClampNeg (vp_nar .boolean p1)))) else some (0, o2.2, O)))
def f_M_before_10 (F : fg_A) : Nat → Int32 → Int32 → Option (Int32)
  | 0, _, _ => none
  | k + 1, x2, x3 => if 28 ≤ x3 then some x2 else fg_og (ix x3 28) (if (F x3.toNatClampNeg) < 0 then f_M_before_10 F k x2 (x3 + 1) else f_M_before_10 F k (x2 ||| (1 <<< (x3 &&& 31))) (x3 + 1))
def f_M_before (n : Int32) (B : fg_A) (E : fg_A) (O : fg_A) (F : fg_A) (p0 : Int32) : Option (Int32 × fg_A) := fg_ob (f_M_measure n B E O F p0 (-1)) (fun o1 => fg_ob (f_M_before_10 o1 fu 0 0) (fun o2 => some (o2, o1)))
def f_M_flow_2 (n : Int32) (x1 : Int32) (x2 : Int32) : Nat → Int32 → fg_A → Option (fg_A)
  | 0, _, _ => none
  | k + 1, x3, L => if n ≤ x3 then some L else fg_og (ix x3 90) (f_M_flow_2 n x1 x2 k (x3 + 1) (upd L x3.toNatClampNeg 0))
def f_M_flow_30 (n : Int32) (B : fg_A) (E : fg_A) (C : fg_A) (O : fg_A) (x1 : Int32) (x2 : Int32) : Nat → Int32 → fg_A → fg_A → Option (Int32 × fg_A × fg_A)
  | 0, _, _, _ => none
  | k + 1, x3, L, V => fg_og (ix x2 28) (if (V x2.toNatClampNeg) ≤ 0 then some (x3, L, V) else fg_ob (f_M_push B E L V x1 x2) (fun o1 => fg_ob (f_M_spread n B E C O o1 V x1) (fun o2 => f_M_flow_30 n B E C O x1 x2 k (x3 + 1) o1 o2)))
def f_M_flow (n : Int32) (B : fg_A) (E : fg_A) (C : fg_A) (O : fg_A) (L : fg_A) (V : fg_A) (p0 : Int32) (p1 : Int32) : Option (Int32 × fg_A × fg_A) := fg_ob (f_M_flow_2 n p0 p1 fu 0 L) (fun o1 => fg_ob (f_M_spread n B E C O o1 V p0) (fun o2 => fg_ob (f_M_flow_30 n B E C O p0 p1 fu 0 o1 o2) (fun o3 => some (o3.1, o3.2.1, o3.2.2))))
def f_M_rule (t : Int32) (n : Int32) (B : fg_A) (E : fg_A) (C : fg_A) (O : fg_A) (p0 : Int32) (p1 : Int32) (p2 : Int32) : Option (Int32 × Int32 × Int32 × fg_A × fg_A × fg_A × fg_A) := fg_ob (f_M_isNode p0) (fun o1 => if o1 = 0 then if n = 90 then fg_ob (f_M_refuse t 1 1) (fun o3 => if o3.1 = 0 then fg_og (ix n 90) (fg_og (ix n 90) (fg_og (ix n 90) (fg_og (ix n 90) (some ((n + 1) - 1, o3.2, n + 1, upd B n.toNatClampNeg p0, upd E n.toNatClampNeg p1, upd C n.toNatClampNeg p2, upd O n.toNatClampNeg (vp_nar .boolean 1)))))) else some (0, o3.2, n, B, E, C, O)) else fg_ob (f_M_refuse t 1 0) (fun o2 => if o2.1 = 0 then fg_og (ix n 90) (fg_og (ix n 90) (fg_og (ix n 90) (fg_og (ix n 90) (some ((n + 1) - 1, o2.2, n + 1, upd B n.toNatClampNeg p0, upd E n.toNatClampNeg p1, upd C n.toNatClampNeg p2, upd O n.toNatClampNeg (vp_nar .boolean 1)))))) else some (0, o2.2, n, B, E, C, O)) else fg_ob (f_M_isNode p1) (fun o4 => if o4 = 0 then if n = 90 then fg_ob (f_M_refuse t 1 1) (fun o6 => if o6.1 = 0 then fg_og (ix n 90) (fg_og (ix n 90) (fg_og (ix n 90) (fg_og (ix n 90) (some ((n + 1) - 1, o6.2, n + 1, upd B n.toNatClampNeg p0, upd E n.toNatClampNeg p1, upd C n.toNatClampNeg p2, upd O n.toNatClampNeg (vp_nar .boolean 1)))))) else some (0, o6.2, n, B, E, C, O)) else fg_ob (f_M_refuse t 1 0) (fun o5 => if o5.1 = 0 then fg_og (ix n 90) (fg_og (ix n 90) (fg_og (ix n 90) (fg_og (ix n 90) (some ((n + 1) - 1, o5.2, n + 1, upd B n.toNatClampNeg p0, upd E n.toNatClampNeg p1, upd C n.toNatClampNeg p2, upd O n.toNatClampNeg (vp_nar .boolean 1)))))) else some (0, o5.2, n, B, E, C, O)) else if p0 = p1 then if n = 90 then fg_ob (f_M_refuse t 1 1) (fun o8 => if o8.1 = 0 then fg_og (ix n 90) (fg_og (ix n 90) (fg_og (ix n 90) (fg_og (ix n 90) (some ((n + 1) - 1, o8.2, n + 1, upd B n.toNatClampNeg p0, upd E n.toNatClampNeg p1, upd C n.toNatClampNeg p2, upd O n.toNatClampNeg (vp_nar .boolean 1)))))) else some (0, o8.2, n, B, E, C, O)) else fg_ob (f_M_refuse t 1 0) (fun o7 => if o7.1 = 0 then fg_og (ix n 90) (fg_og (ix n 90) (fg_og (ix n 90) (fg_og (ix n 90) (some ((n + 1) - 1, o7.2, n + 1, upd B n.toNatClampNeg p0, upd E n.toNatClampNeg p1, upd C n.toNatClampNeg p2, upd O n.toNatClampNeg (vp_nar .boolean 1)))))) else some (0, o7.2, n, B, E, C, O)) else fg_ob (f_M_in p2 1 9) (fun o9 => if o9 = 0 then if n = 90 then fg_ob (f_M_refuse t 1 1) (fun o13 => if o13.1 = 0 then fg_og (ix n 90) (fg_og (ix n 90) (fg_og (ix n 90) (fg_og (ix n 90) (some ((n + 1) - 1, o13.2, n + 1, upd B n.toNatClampNeg p0, upd E n.toNatClampNeg p1, upd C n.toNatClampNeg p2, upd O n.toNatClampNeg (vp_nar .boolean 1)))))) else some (0, o13.2, n, B, E, C, O)) else fg_ob (f_M_refuse t 1 0) (fun o12 => if o12.1 = 0 then fg_og (ix n 90) (fg_og (ix n 90) (fg_og (ix n 90) (fg_og (ix n 90) (some ((n + 1) - 1, o12.2, n + 1, upd B n.toNatClampNeg p0, upd E n.toNatClampNeg p1, upd C n.toNatClampNeg p2, upd O n.toNatClampNeg (vp_nar .boolean 1)))))) else some (0, o12.2, n, B, E, C, O)) else if n = 90 then fg_ob (f_M_refuse t 0 1) (fun o11 => if o11.1 = 0 then fg_og (ix n 90) (fg_og (ix n 90) (fg_og (ix n 90) (fg_og (ix n 90) (some ((n + 1) - 1, o11.2, n + 1, upd B n.toNatClampNeg p0, upd E n.toNatClampNeg p1, upd C n.toNatClampNeg p2, upd O n.toNatClampNeg (vp_nar .boolean 1)))))) else some (0, o11.2, n, B, E, C, O)) else fg_ob (f_M_refuse t 0 0) (fun o10 => if o10.1 = 0 then fg_og (ix n 90) (fg_og (ix n 90) (fg_og (ix n 90) (fg_og (ix n 90) (some ((n + 1) - 1, o10.2, n + 1, upd B n.toNatClampNeg p0, upd E n.toNatClampNeg p1, upd C n.toNatClampNeg p2, upd O n.toNatClampNeg (vp_nar .boolean 1)))))) else some (0, o10.2, n, B, E, C, O)))))
def f_M_length (t : Int32) (n : Int32) (B : fg_A) (E : fg_A) (O : fg_A) (F : fg_A) (p0 : Int32) (p1 : Int32) : Option (Int32 × Int32 × fg_A) := fg_ob (f_M_isNode p0) (fun o1 => if o1 = 0 then fg_ob (f_M_refuse t 1 0) (fun o2 => if o2.1 = 0 then fg_ob (f_M_measure n B E O F p1 (-1)) (fun o3 => fg_og (ix p0 28) (some (o3 p0.toNatClampNeg, o2.2, o3))) else some (0, o2.2, F)) else fg_ob (f_M_isNode p1) (fun o4 => if o4 = 0 then fg_ob (f_M_refuse t 1 0) (fun o7 => if o7.1 = 0 then fg_ob (f_M_measure n B E O F p1 (-1)) (fun o8 => fg_og (ix p0 28) (some (o8 p0.toNatClampNeg, o7.2, o8))) else some (0, o7.2, F)) else fg_ob (f_M_refuse t 0 0) (fun o5 => if o5.1 = 0 then fg_ob (f_M_measure n B E O F p1 (-1)) (fun o6 => fg_og (ix p0 28) (some (o6 p0.toNatClampNeg, o5.2, o6))) else some (0, o5.2, F))))
def f_M_step_112 (B : fg_A) (E : fg_A) (O : fg_A) (F : fg_A) (x3 : Int32) (x5 : Int32) (x7 : Int32) : Nat → Int32 → Int32 → Option (Int32)
  | 0, _, _ => none
  | k + 1, x6, x8 => if x8 < 0 then some x6 else fg_og (ix x8 90) (if (O x8.toNatClampNeg) = 0 then f_M_step_112 B E O F x3 x5 x7 k x6 (x8 + (-1)) else fg_og (ix x8 90) (if (B x8.toNatClampNeg) = x5 then fg_og (ix x8 90) (fg_og (ix (E x8.toNatClampNeg) 28) (fg_og (ix x5 28) (if (F (E x8.toNatClampNeg).toNatClampNeg) = ((F x5.toNatClampNeg) - 1) then f_M_step_112 B E O F x3 x5 x7 k x8 (x8 + (-1)) else f_M_step_112 B E O F x3 x5 x7 k x6 (x8 + (-1))))) else f_M_step_112 B E O F x3 x5 x7 k x6 (x8 + (-1))))
def f_M_step_95 (n : Int32) (B : fg_A) (E : fg_A) (O : fg_A) (F : fg_A) (x3 : Int32) : Nat → Int32 → Int32 → Int32 → Option (Int32)
  | 0, _, _, _ => none
  | k + 1, x5, x6, x7 => if x3 < x7 then some x6 else fg_ob (f_M_step_112 B E O F x3 x5 x7 fu (-1) (n - 1)) (fun o1 => fg_og (ix o1 90) (f_M_step_95 n B E O F x3 k (E o1.toNatClampNeg) o1 (x7 + 1)))
def f_M_step (t : Int32) (n : Int32) (B : fg_A) (E : fg_A) (O : fg_A) (F : fg_A) (p0 : Int32) (p1 : Int32) (p2 : Int32) : Option (Int32 × Int32 × fg_A) := fg_ob (f_M_isNode p0) (fun o1 => if o1 = 0 then fg_ob (f_M_refuse t 1 0) (fun o2 => if o2.1 = 0 then fg_ob (f_M_step_95 n B E O F p2 fu p0 (-1) 0) (fun o3 => some (o3, o2.2, F)) else some (0, o2.2, F)) else fg_ob (f_M_isNode p1) (fun o4 => if o4 = 0 then fg_ob (f_M_refuse t 1 0) (fun o5 => if o5.1 = 0 then fg_ob (f_M_step_95 n B E O F p2 fu p0 (-1) 0) (fun o6 => some (o6, o5.2, F)) else some (0, o5.2, F)) else fg_ob (f_M_measure n B E O F p1 (-1)) (fun o7 => fg_og (ix p0 28) (fg_ob (f_M_in p2 0 ((o7 p0.toNatClampNeg) - 1)) (fun o8 => if o8 = 0 then fg_ob (f_M_refuse t 0 1) (fun o11 => if o11.1 = 0 then fg_ob (f_M_step_95 n B E O o7 p2 fu p0 (-1) 0) (fun o12 => some (o12, o11.2, o7)) else some (0, o11.2, o7)) else fg_ob (f_M_refuse t 0 0) (fun o9 => if o9.1 = 0 then fg_ob (f_M_step_95 n B E O o7 p2 fu p0 (-1) 0) (fun o10 => some (o10, o9.2, o7)) else some (0, o9.2, o7)))))))
def f_M_passed_56 (n : Int32) (B : fg_A) (E : fg_A) (O : fg_A) (x1 : Int32) (x2 : Int32) (x4 : Int32) : Nat → Int32 → Int32 → fg_A → Option (Int32 × fg_A)
  | 0, _, _, _ => none
  | k + 1, x3, x5, F => if 28 ≤ x5 then some (x3, F) else if x4 = 0 then some (x3, F) else if x5 = x1 then f_M_passed_56 n B E O x1 x2 x4 k x3 (x5 + 1) F else if x5 = x2 then f_M_passed_56 n B E O x1 x2 x4 k x3 (x5 + 1) F else fg_ob (f_M_measure n B E O F x2 x5) (fun o1 => fg_og (ix x1 28) (if 0 ≤ (o1 x1.toNatClampNeg) then f_M_passed_56 n B E O x1 x2 x4 k x3 (x5 + 1) o1 else f_M_passed_56 n B E O x1 x2 x4 k (x3 ||| (1 <<< (x5 &&& 31))) (x5 + 1) o1))
def f_M_passed (t : Int32) (n : Int32) (B : fg_A) (E : fg_A) (O : fg_A) (F : fg_A) (p0 : Int32) (p1 : Int32) : Option (Int32 × Int32 × fg_A) := fg_ob (f_M_isNode p0) (fun o1 => if o1 = 0 then fg_ob (f_M_refuse t 1 0) (fun o2 => if o2.1 = 0 then fg_ob (f_M_measure n B E O F p1 (-1)) (fun o3 => fg_og (ix p0 28) (if (o3 p0.toNatClampNeg) < 0 then fg_ob (f_M_passed_56 n B E O p0 p1 0 fu 0 0 o3) (fun o4 => some (o4.1, o2.2, o4.2)) else fg_ob (f_M_passed_56 n B E O p0 p1 1 fu 0 0 o3) (fun o5 => some (o5.1, o2.2, o5.2)))) else some (0, o2.2, F)) else fg_ob (f_M_isNode p1) (fun o6 => if o6 = 0 then fg_ob (f_M_refuse t 1 0) (fun o11 => if o11.1 = 0 then fg_ob (f_M_measure n B E O F p1 (-1)) (fun o12 => fg_og (ix p0 28) (if (o12 p0.toNatClampNeg) < 0 then fg_ob (f_M_passed_56 n B E O p0 p1 0 fu 0 0 o12) (fun o13 => some (o13.1, o11.2, o13.2)) else fg_ob (f_M_passed_56 n B E O p0 p1 1 fu 0 0 o12) (fun o14 => some (o14.1, o11.2, o14.2)))) else some (0, o11.2, F)) else fg_ob (f_M_refuse t 0 0) (fun o7 => if o7.1 = 0 then fg_ob (f_M_measure n B E O F p1 (-1)) (fun o8 => fg_og (ix p0 28) (if (o8 p0.toNatClampNeg) < 0 then fg_ob (f_M_passed_56 n B E O p0 p1 0 fu 0 0 o8) (fun o9 => some (o9.1, o7.2, o9.2)) else fg_ob (f_M_passed_56 n B E O p0 p1 1 fu 0 0 o8) (fun o10 => some (o10.1, o7.2, o10.2)))) else some (0, o7.2, F))))
def f_M_circleOf_11 (n : Int32) (B : fg_A) (E : fg_A) (O : fg_A) (x1 : Int32) (x2 : Int32) : Nat → Int32 → Int32 → fg_A → Option (Int32 × fg_A)
  | 0, _, _, _ => none
  | k + 1, x3, x4, F => if 28 ≤ x4 then some (x3, F) else if ((x2 >>> (x4 &&& 31)) &&& 1) = 1 then fg_ob (f_M_before n B E O F x4) (fun o1 => if ((o1.1 >>> (x1 &&& 31)) &&& 1) = 1 then f_M_circleOf_11 n B E O x1 x2 k (x3 ||| (1 <<< (x4 &&& 31))) (x4 + 1) o1.2 else f_M_circleOf_11 n B E O x1 x2 k x3 (x4 + 1) o1.2) else f_M_circleOf_11 n B E O x1 x2 k x3 (x4 + 1) F
def f_M_circleOf (n : Int32) (B : fg_A) (E : fg_A) (O : fg_A) (F : fg_A) (p0 : Int32) : Option (Int32 × fg_A) := fg_ob (f_M_before n B E O F p0) (fun o1 => fg_ob (f_M_circleOf_11 n B E O p0 o1.1 fu 0 0 o1.2) (fun o2 => some (o2.1, o2.2)))
def f_M_areUnlike (p0 : Int32) (p1 : Int32) : Option (Int32) := fg_ob (f_M_isNode p0) (fun o1 => if o1 = 0 then some 0 else fg_ob (f_M_isNode p1) (fun o2 => if o2 = 0 then some 0 else if p0 = p1 then some 0 else some 1))
def f_M_circle (t : Int32) (n : Int32) (B : fg_A) (E : fg_A) (O : fg_A) (F : fg_A) (p0 : Int32) : Option (Int32 × Int32 × fg_A) := fg_ob (f_M_isNode p0) (fun o1 => if o1 = 0 then fg_ob (f_M_refuse t 1 0) (fun o4 => if o4.1 = 0 then fg_ob (f_M_circleOf n B E O F p0) (fun o5 => some (o5.1, o4.2, o5.2)) else some (0, o4.2, F)) else fg_ob (f_M_refuse t 0 0) (fun o2 => if o2.1 = 0 then fg_ob (f_M_circleOf n B E O F p0) (fun o3 => some (o3.1, o2.2, o3.2)) else some (0, o2.2, F)))
def f_M_circles_9 (n : Int32) (B : fg_A) (E : fg_A) (O : fg_A) : Nat → Int32 → Int32 → fg_A → Option (Int32 × fg_A)
  | 0, _, _, _ => none
  | k + 1, x1, x2, F => if 28 ≤ x2 then some (x1, F) else fg_ob (f_M_circleOf n B E O F x2) (fun o1 => if (o1.1 &&& ((1 <<< (x2 &&& 31)) - 1)) = 0 then f_M_circles_9 n B E O k (x1 + 1) (x2 + 1) o1.2 else f_M_circles_9 n B E O k x1 (x2 + 1) o1.2)
def f_M_circles (t : Int32) (n : Int32) (B : fg_A) (E : fg_A) (O : fg_A) (F : fg_A) : Option (Int32 × Int32 × fg_A) := fg_ob (f_M_circles_9 n B E O fu 0 0 F) (fun o1 => some (o1.1, 0, o1.2))
def f_M_cut (t : Int32) (n : Int32) (B : fg_A) (E : fg_A) (C : fg_A) (O : fg_A) (L : fg_A) (V : fg_A) (p0 : Int32) (p1 : Int32) : Option (Int32 × Int32 × fg_A × fg_A) := fg_ob (f_M_areUnlike p0 p1) (fun o1 => if o1 = 0 then fg_ob (f_M_refuse t 1 0) (fun o4 => if o4.1 = 0 then fg_ob (f_M_flow n B E C O L V p0 p1) (fun o5 => some (o5.1, o4.2, o5.2.1, o5.2.2)) else some (0, o4.2, L, V)) else fg_ob (f_M_refuse t 0 0) (fun o2 => if o2.1 = 0 then fg_ob (f_M_flow n B E C O L V p0 p1) (fun o3 => some (o3.1, o2.2, o3.2.1, o3.2.2)) else some (0, o2.2, L, V)))
def f_M_left_35 (V : fg_A) : Nat → Int32 → Int32 → Option (Int32)
  | 0, _, _ => none
  | k + 1, x3, x4 => if 28 ≤ x4 then some x3 else fg_og (ix x4 28) (if (V x4.toNatClampNeg) ≤ 0 then f_M_left_35 V k x3 (x4 + 1) else f_M_left_35 V k (x3 ||| (1 <<< (x4 &&& 31))) (x4 + 1))
def f_M_left (t : Int32) (n : Int32) (B : fg_A) (E : fg_A) (C : fg_A) (O : fg_A) (L : fg_A) (V : fg_A) (p0 : Int32) (p1 : Int32) : Option (Int32 × Int32 × fg_A × fg_A) := fg_ob (f_M_areUnlike p0 p1) (fun o1 => if o1 = 0 then fg_ob (f_M_refuse t 1 0) (fun o5 => if o5.1 = 0 then fg_ob (f_M_flow n B E C O L V p0 p1) (fun o6 => fg_ob (f_M_left_35 o6.2.2 fu 0 0) (fun o7 => some (o7, o5.2, o6.2.1, o6.2.2))) else some (0, o5.2, L, V)) else fg_ob (f_M_refuse t 0 0) (fun o2 => if o2.1 = 0 then fg_ob (f_M_flow n B E C O L V p0 p1) (fun o3 => fg_ob (f_M_left_35 o3.2.2 fu 0 0) (fun o4 => some (o4, o2.2, o3.2.1, o3.2.2))) else some (0, o2.2, L, V)))
def f_M_cutRule_40 (t : Int32) (n : Int32) (B : fg_A) (E : fg_A) (C : fg_A) (O : fg_A) (L : fg_A) (V : fg_A) (x3 : Int32) : Nat → Int32 → Int32 → Option (Int32 × Int32 × fg_A × fg_A)
  | 0, _, _ => none
  | k + 1, x4, x5 => if n ≤ x5 then some ((-1), t, L, V) else fg_og (ix x5 90) (if (O x5.toNatClampNeg) = 0 then f_M_cutRule_40 t n B E C O L V x3 k x4 (x5 + 1) else fg_og (ix x5 90) (fg_og (ix (B x5.toNatClampNeg) 28) (if (V (B x5.toNatClampNeg).toNatClampNeg) ≤ 0 then f_M_cutRule_40 t n B E C O L V x3 k x4 (x5 + 1) else fg_og (ix x5 90) (fg_og (ix (E x5.toNatClampNeg) 28) (if (V (E x5.toNatClampNeg).toNatClampNeg) = 0 then if x4 = x3 then some (x5, t, L, V) else f_M_cutRule_40 t n B E C O L V x3 k (x4 + 1) (x5 + 1) else f_M_cutRule_40 t n B E C O L V x3 k x4 (x5 + 1))))))
def f_M_cutRule (t : Int32) (n : Int32) (B : fg_A) (E : fg_A) (C : fg_A) (O : fg_A) (L : fg_A) (V : fg_A) (p0 : Int32) (p1 : Int32) (p2 : Int32) : Option (Int32 × Int32 × fg_A × fg_A) := fg_ob (f_M_areUnlike p0 p1) (fun o1 => if o1 = 0 then fg_ob (f_M_refuse t 1 0) (fun o2 => if o2.1 = 0 then fg_ob (f_M_flow n B E C O L V p0 p1) (fun o3 => f_M_cutRule_40 o2.2 n B E C O o3.2.1 o3.2.2 p2 fu 0 0) else some (0, o2.2, L, V)) else if 0 ≤ p2 then fg_ob (f_M_refuse t 0 0) (fun o4 => if o4.1 = 0 then fg_ob (f_M_flow n B E C O L V p0 p1) (fun o5 => f_M_cutRule_40 o4.2 n B E C O o5.2.1 o5.2.2 p2 fu 0 0) else some (0, o4.2, L, V)) else fg_ob (f_M_refuse t 1 0) (fun o6 => if o6.1 = 0 then fg_ob (f_M_flow n B E C O L V p0 p1) (fun o7 => f_M_cutRule_40 o6.2 n B E C O o7.2.1 o7.2.2 p2 fu 0 0) else some (0, o6.2, L, V)))
def t_G_turn (O : fg_A) (n : Int32) (p0 : Int32) (p1 : Int32) : Option (Nat) := if p0 < 0 then some 2 else if p0 < n then none else some 2
def t_G_needNode (p0 : Int32) : Option (Nat) := if p0 < 0 then some 0 else if p0 < 28 then none else some 0
def t_G_needNodes (p0 : Int32) (p1 : Int32) : Option (Nat) := fg_ot (t_G_needNode p0) (fg_ob (f_G_needNode p0) (fun _ => fg_ot (t_G_needNode p1) (fg_ob (f_G_needNode p1) (fun _ => none))))
def t_G_length (B : fg_A) (E : fg_A) (O : fg_A) (n : Int32) (F : fg_A) (p0 : Int32) (p1 : Int32) : Option (Nat) := fg_ot (t_G_needNodes p0 p1) (fg_ob (f_G_needNodes p0 p1) (fun _ => none))
def t_G_step (B : fg_A) (E : fg_A) (O : fg_A) (n : Int32) (F : fg_A) (p0 : Int32) (p1 : Int32) (p2 : Int32) : Option (Nat × fg_A) := fg_ot (fg_ob (t_G_needNodes p0 p1) (fun cd => some (cd, F))) (fg_ob (f_G_needNodes p0 p1) (fun _ => fg_ob (f_G_measureWaysTo B E O n F p1) (fun o2 => if p2 < 0 then some (2, o2) else fg_og (ix p0 28) (if p2 < (o2 p0.toNatClampNeg) then none else some (2, o2)))))
def t_G_needUnlikeNodes (p0 : Int32) (p1 : Int32) : Option (Nat) := fg_ot (t_G_needNodes p0 p1) (fg_ob (f_G_needNodes p0 p1) (fun _ => if p0 = p1 then some 0 else none))
def t_G_rule (B : fg_A) (E : fg_A) (C : fg_A) (O : fg_A) (n : Int32) (p0 : Int32) (p1 : Int32) (p2 : Int32) : Option (Nat) := fg_ot (t_G_needUnlikeNodes p0 p1) (fg_ob (f_G_needUnlikeNodes p0 p1) (fun _ => if p2 < 1 then some 0 else if p2 ≤ 9 then if n < 90 then none else some 1 else some 0))
def t_G_passed (B : fg_A) (E : fg_A) (O : fg_A) (n : Int32) (p0 : Int32) (p1 : Int32) : Option (Nat) := fg_ot (t_G_needNodes p0 p1) (fg_ob (f_G_needNodes p0 p1) (fun _ => none))
def t_G_circle (B : fg_A) (E : fg_A) (O : fg_A) (n : Int32) (p0 : Int32) : Option (Nat) := fg_ot (t_G_needNode p0) (fg_ob (f_G_needNode p0) (fun _ => none))
def t_G_cut (B : fg_A) (E : fg_A) (C : fg_A) (O : fg_A) (n : Int32) (L : fg_A) (V : fg_A) (p0 : Int32) (p1 : Int32) : Option (Nat) := fg_ot (t_G_needUnlikeNodes p0 p1) (fg_ob (f_G_needUnlikeNodes p0 p1) (fun _ => none))
def t_G_cutRule (B : fg_A) (E : fg_A) (C : fg_A) (O : fg_A) (n : Int32) (L : fg_A) (V : fg_A) (p0 : Int32) (p1 : Int32) (p2 : Int32) : Option (Nat) := fg_ot (t_G_needUnlikeNodes p0 p1) (fg_ob (f_G_needUnlikeNodes p0 p1) (fun _ => if 0 ≤ p2 then none else some 0))
def t_G_left (B : fg_A) (E : fg_A) (C : fg_A) (O : fg_A) (n : Int32) (L : fg_A) (V : fg_A) (p0 : Int32) (p1 : Int32) : Option (Nat) := fg_ot (t_G_needUnlikeNodes p0 p1) (fg_ob (f_G_needUnlikeNodes p0 p1) (fun _ => none))
end
section
/-! The law as a function. -/
abbrev fg_J : Type := Nat → Int64
def fg_oc {α γ : Type} (x : Option α) (h : α → Option γ) (y : Option γ) : Option γ := match x with
  | some a => h a
  | none => y
theorem fg_oc_some {α γ : Type} {x : Option α} {h : α → Option γ} {y : Option γ} {c : γ} (hc : fg_oc x h y = some c) : (∃ a, x = some a ∧ h a = some c) ∨ (x = none ∧ y = some c) := by
  cases x with
  | none => exact Or.inr ⟨rfl, hc⟩
  | some a => exact Or.inl ⟨a, rfl, hc⟩
def h_rule (gB : fg_A) (gE : fg_A) (gC : fg_A) (gO : fg_A) (gn : Int32) (p0 : Int32) (p1 : Int32) (p2 : Int32) (w : fg_J) : Option (Int32 × fg_A × fg_A × fg_A × fg_A × Int32 × fg_J) := fg_oc (t_G_rule gB gE gC gO gn p0 p1 p2) (fun cd => if cd = 0 then some (1, gB, gE, gC, gO, gn, w) else if cd = 1 then some (2, gB, gE, gC, gO, gn, w) else none) (fg_ob (f_G_rule gB gE gC gO gn p0 p1 p2) (fun o => some (0, o.2.1, o.2.2.1, o.2.2.2.1, o.2.2.2.2.1, o.2.2.2.2.2, vp_updL w 0 o.1.toInt64)))
def h_turn (gO : fg_A) (gn : Int32) (p0 : Int32) (p1 : Int32) (w : fg_J) : Option (Int32 × fg_A × fg_J) := fg_oc (t_G_turn gO gn p0 p1) (fun cd => if cd = 2 then some (1, gO, w) else none) (fg_ob (f_G_turn gO gn p0 p1) (fun o => some (0, o.2, vp_updL w 0 (if o.1 = 0 then 0 else 1))))
def h_length (gB : fg_A) (gE : fg_A) (gO : fg_A) (gn : Int32) (gF : fg_A) (p0 : Int32) (p1 : Int32) (w : fg_J) : Option (Int32 × fg_A × fg_J) := fg_oc (t_G_length gB gE gO gn gF p0 p1) (fun cd => if cd = 0 then some (1, gF, w) else none) (fg_ob (f_G_length gB gE gO gn gF p0 p1) (fun o => some (0, o.2, vp_updL w 0 o.1.toInt64)))
def h_step (gB : fg_A) (gE : fg_A) (gO : fg_A) (gn : Int32) (gF : fg_A) (p0 : Int32) (p1 : Int32) (p2 : Int32) (w : fg_J) : Option (Int32 × fg_A × fg_J) := fg_oc (t_G_step gB gE gO gn gF p0 p1 p2) (fun cd => if cd.1 = 0 then some (1, cd.2, w) else if cd.1 = 2 then some (2, cd.2, w) else none) (fg_ob (f_G_step gB gE gO gn gF p0 p1 p2) (fun o => some (0, o.2, vp_updL w 0 o.1.toInt64)))
def h_passed (gB : fg_A) (gE : fg_A) (gO : fg_A) (gn : Int32) (p0 : Int32) (p1 : Int32) (w : fg_J) : Option (Int32 × fg_J) := fg_oc (t_G_passed gB gE gO gn p0 p1) (fun cd => if cd = 0 then some (1, w) else none) (fg_ob (f_G_passed gB gE gO gn p0 p1) (fun o => some (0, vp_updL w 0 o.toInt64)))
def h_circle (gB : fg_A) (gE : fg_A) (gO : fg_A) (gn : Int32) (p0 : Int32) (w : fg_J) : Option (Int32 × fg_J) := fg_oc (t_G_circle gB gE gO gn p0) (fun cd => if cd = 0 then some (1, w) else none) (fg_ob (f_G_circle gB gE gO gn p0) (fun o => some (0, vp_updL w 0 o.toInt64)))
def h_cut (gB : fg_A) (gE : fg_A) (gC : fg_A) (gO : fg_A) (gn : Int32) (gL : fg_A) (gV : fg_A) (p0 : Int32) (p1 : Int32) (w : fg_J) : Option (Int32 × fg_A × fg_A × fg_J) := fg_oc (t_G_cut gB gE gC gO gn gL gV p0 p1) (fun cd => if cd = 0 then some (1, gL, gV, w) else none) (fg_ob (f_G_cut gB gE gC gO gn gL gV p0 p1) (fun o => some (0, o.2.1, o.2.2, vp_updL w 0 o.1.toInt64)))
def h_cutRule (gB : fg_A) (gE : fg_A) (gC : fg_A) (gO : fg_A) (gn : Int32) (gL : fg_A) (gV : fg_A) (p0 : Int32) (p1 : Int32) (p2 : Int32) (w : fg_J) : Option (Int32 × fg_A × fg_A × fg_J) := fg_oc (t_G_cutRule gB gE gC gO gn gL gV p0 p1 p2) (fun cd => if cd = 0 then some (1, gL, gV, w) else none) (fg_ob (f_G_cutRule gB gE gC gO gn gL gV p0 p1 p2) (fun o => some (0, o.2.1, o.2.2, vp_updL w 0 o.1.toInt64)))
def h_left (gB : fg_A) (gE : fg_A) (gC : fg_A) (gO : fg_A) (gn : Int32) (gL : fg_A) (gV : fg_A) (p0 : Int32) (p1 : Int32) (w : fg_J) : Option (Int32 × fg_A × fg_A × fg_J) := fg_oc (t_G_left gB gE gC gO gn gL gV p0 p1) (fun cd => if cd = 0 then some (1, gL, gV, w) else none) (fg_ob (f_G_left gB gE gC gO gn gL gV p0 p1) (fun o => some (0, o.2.1, o.2.2, vp_updL w 0 o.1.toInt64)))
def f_law (xs : Nat → Int32) (ln : Nat) : Nat → Int32 → fg_A → fg_A → fg_A → fg_A → Int32 → fg_A → fg_A → fg_A → Int32 → Int32 → fg_A → fg_A → fg_A → fg_A → fg_A → fg_A → fg_A → fg_J → Option Unit
  | 0, _, _, _, _, _, _, _, _, _, _, _, _, _, _, _, _, _, _, _ => none
  | k + 1, x4, gB, gE, gC, gO, gn, gF, gL, gV, mt, mn, mB, mE, mC, mO, mF, mL, mV, w => if ((Int32.ofNat ln) - 4) < x4 then some () else fg_og (ix x4 ln) (if ((xs x4.toNatClampNeg) &&& 15) = 0 then fg_ob (f_G_clear gn) (fun o37 => fg_ob (f_M_clear mt mn) (fun o38 => f_law xs ln k (x4 + 4) gB gE gC gO o37 gF gL gV o38.1 o38.2 mB mE mC mO mF mL mV w)) else if ((xs x4.toNatClampNeg) &&& 15) = 1 then fg_og (ix (x4 + 1) ln) (fg_og (ix (x4 + 2) ln) (fg_og (ix (x4 + 3) ln) (fg_ob (h_rule gB gE gC gO gn (xs (x4 + 1).toNatClampNeg) (xs (x4 + 2).toNatClampNeg) (xs (x4 + 3).toNatClampNeg) w) (fun o34 => fg_og (ix (x4 + 1) ln) (fg_og (ix (x4 + 2) ln) (fg_og (ix (x4 + 3) ln) (fg_ob (f_M_rule mt mn mB mE mC mO (xs (x4 + 1).toNatClampNeg) (xs (x4 + 2).toNatClampNeg) (xs (x4 + 3).toNatClampNeg)) (fun o35 => fg_ob (f_M_thrown o35.2.1) (fun o36 => if o36 = o34.1 then if o34.1 = 0 then if (lg_cmp (o34.2.2.2.2.2.2 0) o35.1.toInt64) = 0 then f_law xs ln k (x4 + 4) o34.2.1 o34.2.2.1 o34.2.2.2.1 o34.2.2.2.2.1 o34.2.2.2.2.2.1 gF gL gV o35.2.1 o35.2.2.1 o35.2.2.2.1 o35.2.2.2.2.1 o35.2.2.2.2.2.1 o35.2.2.2.2.2.2 mF mL mV o34.2.2.2.2.2.2 else none else f_law xs ln k (x4 + 4) o34.2.1 o34.2.2.1 o34.2.2.2.1 o34.2.2.2.2.1 o34.2.2.2.2.2.1 gF gL gV o35.2.1 o35.2.2.1 o35.2.2.2.1 o35.2.2.2.2.1 o35.2.2.2.2.2.1 o35.2.2.2.2.2.2 mF mL mV o34.2.2.2.2.2.2 else none))))))))) else if ((xs x4.toNatClampNeg) &&& 15) = 2 then fg_og (ix (x4 + 1) ln) (fg_og (ix (x4 + 2) ln) (if (xs (x4 + 2).toNatClampNeg) = 0 then fg_ob (h_turn gO gn (xs (x4 + 1).toNatClampNeg) 0 w) (fun o24 => fg_og (ix (x4 + 1) ln) (fg_og (ix (x4 + 2) ln) (if (xs (x4 + 2).toNatClampNeg) = 0 then fg_ob (f_M_turn mt mn mO (xs (x4 + 1).toNatClampNeg) 0) (fun o25 => fg_ob (f_M_thrown o25.2.1) (fun o26 => if o26 = o24.1 then if o24.1 = 0 then if o25.1 = 0 then if (lg_cmp (o24.2.2 0) 0) = 0 then f_law xs ln k (x4 + 4) gB gE gC o24.2.1 gn gF gL gV o25.2.1 mn mB mE mC o25.2.2 mF mL mV o24.2.2 else none else if (lg_cmp (o24.2.2 0) 1) = 0 then f_law xs ln k (x4 + 4) gB gE gC o24.2.1 gn gF gL gV o25.2.1 mn mB mE mC o25.2.2 mF mL mV o24.2.2 else none else f_law xs ln k (x4 + 4) gB gE gC o24.2.1 gn gF gL gV o25.2.1 mn mB mE mC o25.2.2 mF mL mV o24.2.2 else none)) else fg_ob (f_M_turn mt mn mO (xs (x4 + 1).toNatClampNeg) 1) (fun o27 => fg_ob (f_M_thrown o27.2.1) (fun o28 => if o28 = o24.1 then if o24.1 = 0 then if o27.1 = 0 then if (lg_cmp (o24.2.2 0) 0) = 0 then f_law xs ln k (x4 + 4) gB gE gC o24.2.1 gn gF gL gV o27.2.1 mn mB mE mC o27.2.2 mF mL mV o24.2.2 else none else if (lg_cmp (o24.2.2 0) 1) = 0 then f_law xs ln k (x4 + 4) gB gE gC o24.2.1 gn gF gL gV o27.2.1 mn mB mE mC o27.2.2 mF mL mV o24.2.2 else none else f_law xs ln k (x4 + 4) gB gE gC o24.2.1 gn gF gL gV o27.2.1 mn mB mE mC o27.2.2 mF mL mV o24.2.2 else none))))) else fg_ob (h_turn gO gn (xs (x4 + 1).toNatClampNeg) 1 w) (fun o29 => fg_og (ix (x4 + 1) ln) (fg_og (ix (x4 + 2) ln) (if (xs (x4 + 2).toNatClampNeg) = 0 then fg_ob (f_M_turn mt mn mO (xs (x4 + 1).toNatClampNeg) 0) (fun o30 => fg_ob (f_M_thrown o30.2.1) (fun o31 => if o31 = o29.1 then if o29.1 = 0 then if o30.1 = 0 then if (lg_cmp (o29.2.2 0) 0) = 0 then f_law xs ln k (x4 + 4) gB gE gC o29.2.1 gn gF gL gV o30.2.1 mn mB mE mC o30.2.2 mF mL mV o29.2.2 else none else if (lg_cmp (o29.2.2 0) 1) = 0 then f_law xs ln k (x4 + 4) gB gE gC o29.2.1 gn gF gL gV o30.2.1 mn mB mE mC o30.2.2 mF mL mV o29.2.2 else none else f_law xs ln k (x4 + 4) gB gE gC o29.2.1 gn gF gL gV o30.2.1 mn mB mE mC o30.2.2 mF mL mV o29.2.2 else none)) else fg_ob (f_M_turn mt mn mO (xs (x4 + 1).toNatClampNeg) 1) (fun o32 => fg_ob (f_M_thrown o32.2.1) (fun o33 => if o33 = o29.1 then if o29.1 = 0 then if o32.1 = 0 then if (lg_cmp (o29.2.2 0) 0) = 0 then f_law xs ln k (x4 + 4) gB gE gC o29.2.1 gn gF gL gV o32.2.1 mn mB mE mC o32.2.2 mF mL mV o29.2.2 else none else if (lg_cmp (o29.2.2 0) 1) = 0 then f_law xs ln k (x4 + 4) gB gE gC o29.2.1 gn gF gL gV o32.2.1 mn mB mE mC o32.2.2 mF mL mV o29.2.2 else none else f_law xs ln k (x4 + 4) gB gE gC o29.2.1 gn gF gL gV o32.2.1 mn mB mE mC o32.2.2 mF mL mV o29.2.2 else none))))))) else if ((xs x4.toNatClampNeg) &&& 15) = 3 then fg_og (ix (x4 + 1) ln) (fg_og (ix (x4 + 2) ln) (fg_ob (h_length gB gE gO gn gF (xs (x4 + 1).toNatClampNeg) (xs (x4 + 2).toNatClampNeg) w) (fun o21 => fg_og (ix (x4 + 1) ln) (fg_og (ix (x4 + 2) ln) (fg_ob (f_M_length mt mn mB mE mO mF (xs (x4 + 1).toNatClampNeg) (xs (x4 + 2).toNatClampNeg)) (fun o22 => fg_ob (f_M_thrown o22.2.1) (fun o23 => if o23 = o21.1 then if o21.1 = 0 then if (lg_cmp (o21.2.2 0) o22.1.toInt64) = 0 then f_law xs ln k (x4 + 4) gB gE gC gO gn o21.2.1 gL gV o22.2.1 mn mB mE mC mO o22.2.2 mL mV o21.2.2 else none else f_law xs ln k (x4 + 4) gB gE gC gO gn o21.2.1 gL gV o22.2.1 mn mB mE mC mO o22.2.2 mL mV o21.2.2 else none))))))) else if ((xs x4.toNatClampNeg) &&& 15) = 4 then fg_og (ix (x4 + 1) ln) (fg_og (ix (x4 + 2) ln) (fg_og (ix (x4 + 3) ln) (fg_ob (h_step gB gE gO gn gF (xs (x4 + 1).toNatClampNeg) (xs (x4 + 2).toNatClampNeg) (xs (x4 + 3).toNatClampNeg) w) (fun o18 => fg_og (ix (x4 + 1) ln) (fg_og (ix (x4 + 2) ln) (fg_og (ix (x4 + 3) ln) (fg_ob (f_M_step mt mn mB mE mO mF (xs (x4 + 1).toNatClampNeg) (xs (x4 + 2).toNatClampNeg) (xs (x4 + 3).toNatClampNeg)) (fun o19 => fg_ob (f_M_thrown o19.2.1) (fun o20 => if o20 = o18.1 then if o18.1 = 0 then if (lg_cmp (o18.2.2 0) o19.1.toInt64) = 0 then f_law xs ln k (x4 + 4) gB gE gC gO gn o18.2.1 gL gV o19.2.1 mn mB mE mC mO o19.2.2 mL mV o18.2.2 else none else f_law xs ln k (x4 + 4) gB gE gC gO gn o18.2.1 gL gV o19.2.1 mn mB mE mC mO o19.2.2 mL mV o18.2.2 else none))))))))) else if ((xs x4.toNatClampNeg) &&& 15) = 5 then fg_og (ix (x4 + 1) ln) (fg_og (ix (x4 + 2) ln) (fg_ob (h_passed gB gE gO gn (xs (x4 + 1).toNatClampNeg) (xs (x4 + 2).toNatClampNeg) w) (fun o15 => fg_og (ix (x4 + 1) ln) (fg_og (ix (x4 + 2) ln) (fg_ob (f_M_passed mt mn mB mE mO mF (xs (x4 + 1).toNatClampNeg) (xs (x4 + 2).toNatClampNeg)) (fun o16 => fg_ob (f_M_thrown o16.2.1) (fun o17 => if o17 = o15.1 then if o15.1 = 0 then if (lg_cmp (o15.2 0) o16.1.toInt64) = 0 then f_law xs ln k (x4 + 4) gB gE gC gO gn gF gL gV o16.2.1 mn mB mE mC mO o16.2.2 mL mV o15.2 else none else f_law xs ln k (x4 + 4) gB gE gC gO gn gF gL gV o16.2.1 mn mB mE mC mO o16.2.2 mL mV o15.2 else none))))))) else if ((xs x4.toNatClampNeg) &&& 15) = 6 then fg_og (ix (x4 + 1) ln) (fg_ob (h_circle gB gE gO gn (xs (x4 + 1).toNatClampNeg) w) (fun o12 => fg_og (ix (x4 + 1) ln) (fg_ob (f_M_circle mt mn mB mE mO mF (xs (x4 + 1).toNatClampNeg)) (fun o13 => fg_ob (f_M_thrown o13.2.1) (fun o14 => if o14 = o12.1 then if o12.1 = 0 then if (lg_cmp (o12.2 0) o13.1.toInt64) = 0 then f_law xs ln k (x4 + 4) gB gE gC gO gn gF gL gV o13.2.1 mn mB mE mC mO o13.2.2 mL mV o12.2 else none else f_law xs ln k (x4 + 4) gB gE gC gO gn gF gL gV o13.2.1 mn mB mE mC mO o13.2.2 mL mV o12.2 else none))))) else if ((xs x4.toNatClampNeg) &&& 15) = 7 then fg_ob (f_G_circles gB gE gO gn) (fun o10 => fg_ob (f_M_circles mt mn mB mE mO mF) (fun o11 => if o10 = o11.1 then f_law xs ln k (x4 + 4) gB gE gC gO gn gF gL gV o11.2.1 mn mB mE mC mO o11.2.2 mL mV w else none)) else if ((xs x4.toNatClampNeg) &&& 15) = 8 then fg_og (ix (x4 + 1) ln) (fg_og (ix (x4 + 2) ln) (fg_ob (h_cut gB gE gC gO gn gL gV (xs (x4 + 1).toNatClampNeg) (xs (x4 + 2).toNatClampNeg) w) (fun o7 => fg_og (ix (x4 + 1) ln) (fg_og (ix (x4 + 2) ln) (fg_ob (f_M_cut mt mn mB mE mC mO mL mV (xs (x4 + 1).toNatClampNeg) (xs (x4 + 2).toNatClampNeg)) (fun o8 => fg_ob (f_M_thrown o8.2.1) (fun o9 => if o9 = o7.1 then if o7.1 = 0 then if (lg_cmp (o7.2.2.2 0) o8.1.toInt64) = 0 then f_law xs ln k (x4 + 4) gB gE gC gO gn gF o7.2.1 o7.2.2.1 o8.2.1 mn mB mE mC mO mF o8.2.2.1 o8.2.2.2 o7.2.2.2 else none else f_law xs ln k (x4 + 4) gB gE gC gO gn gF o7.2.1 o7.2.2.1 o8.2.1 mn mB mE mC mO mF o8.2.2.1 o8.2.2.2 o7.2.2.2 else none))))))) else if ((xs x4.toNatClampNeg) &&& 15) = 9 then fg_og (ix (x4 + 1) ln) (fg_og (ix (x4 + 2) ln) (fg_og (ix (x4 + 3) ln) (fg_ob (h_cutRule gB gE gC gO gn gL gV (xs (x4 + 1).toNatClampNeg) (xs (x4 + 2).toNatClampNeg) (xs (x4 + 3).toNatClampNeg) w) (fun o4 => fg_og (ix (x4 + 1) ln) (fg_og (ix (x4 + 2) ln) (fg_og (ix (x4 + 3) ln) (fg_ob (f_M_cutRule mt mn mB mE mC mO mL mV (xs (x4 + 1).toNatClampNeg) (xs (x4 + 2).toNatClampNeg) (xs (x4 + 3).toNatClampNeg)) (fun o5 => fg_ob (f_M_thrown o5.2.1) (fun o6 => if o6 = o4.1 then if o4.1 = 0 then if (lg_cmp (o4.2.2.2 0) o5.1.toInt64) = 0 then f_law xs ln k (x4 + 4) gB gE gC gO gn gF o4.2.1 o4.2.2.1 o5.2.1 mn mB mE mC mO mF o5.2.2.1 o5.2.2.2 o4.2.2.2 else none else f_law xs ln k (x4 + 4) gB gE gC gO gn gF o4.2.1 o4.2.2.1 o5.2.1 mn mB mE mC mO mF o5.2.2.1 o5.2.2.2 o4.2.2.2 else none))))))))) else if ((xs x4.toNatClampNeg) &&& 15) = 10 then fg_og (ix (x4 + 1) ln) (fg_og (ix (x4 + 2) ln) (fg_ob (h_left gB gE gC gO gn gL gV (xs (x4 + 1).toNatClampNeg) (xs (x4 + 2).toNatClampNeg) w) (fun o1 => fg_og (ix (x4 + 1) ln) (fg_og (ix (x4 + 2) ln) (fg_ob (f_M_left mt mn mB mE mC mO mL mV (xs (x4 + 1).toNatClampNeg) (xs (x4 + 2).toNatClampNeg)) (fun o2 => fg_ob (f_M_thrown o2.2.1) (fun o3 => if o3 = o1.1 then if o1.1 = 0 then if (lg_cmp (o1.2.2.2 0) o2.1.toInt64) = 0 then f_law xs ln k (x4 + 4) gB gE gC gO gn gF o1.2.1 o1.2.2.1 o2.2.1 mn mB mE mC mO mF o2.2.2.1 o2.2.2.2 o1.2.2.2 else none else f_law xs ln k (x4 + 4) gB gE gC gO gn gF o1.2.1 o1.2.2.1 o2.2.1 mn mB mE mC mO mF o2.2.2.1 o2.2.2.2 o1.2.2.2 else none))))))) else f_law xs ln k (x4 + 4) gB gE gC gO gn gF gL gV mt mn mB mE mC mO mF mL mV w)
end
section
/-! rows on bits, shifts and unsigned numbers, to paste: each family out of a closed proof of our own, whole with what it rests on; each by itself clean at Lean in its own claim (generation 39, form 5). Take a family whole -/
/-! ===== Int32 by its bits: bt x i ===== -/
def bt (x : Int32) (i : Nat) : Bool := x.toBitVec.getLsbD i
theorem b_ext {x y : Int32} (h : ∀ i, i < 32 → bt x i = bt y i) : x = y := Int32.toBitVec_inj.mp (BitVec.eq_of_getLsbD_eq (fun i hi => h i hi))
theorem b_or (x y : Int32) (i : Nat) : bt (x ||| y) i = (bt x i || bt y i) := by unfold bt; rw [Int32.toBitVec_or, BitVec.getLsbD_or]
theorem b_and (x y : Int32) (i : Nat) : bt (x &&& y) i = (bt x i && bt y i) := by unfold bt; rw [Int32.toBitVec_and, BitVec.getLsbD_and]
theorem b_xor (x y : Int32) (i : Nat) : bt (x ^^^ y) i = (bt x i ^^ bt y i) := by unfold bt; rw [Int32.toBitVec_xor, BitVec.getLsbD_xor]
theorem b_big {x : Int32} {i : Nat} (h : 32 ≤ i) : bt x i = false := BitVec.getLsbD_of_ge _ _ h
theorem b_255 (i : Nat) : bt 255 i = decide (i < 8) := by
  rcases Nat.lt_or_ge i 32 with h | h
  · exact (by decide +kernel : ∀ i, i < 32 → bt 255 i = decide (i < 8)) i h
  · rw [b_big h, decide_eq_false (by omega)]
theorem b_65535 (i : Nat) : bt 65535 i = decide (i < 16) := by
  rcases Nat.lt_or_ge i 32 with h | h
  · exact (by decide +kernel : ∀ i, i < 32 → bt 65535 i = decide (i < 16)) i h
  · rw [b_big h, decide_eq_false (by omega)]
theorem b_m1 : ∀ i, i < 32 → bt (-1) i = true := by decide +kernel
theorem b_0 (i : Nat) : bt 0 i = false := BitVec.getLsbD_zero
theorem s_l : ∀ n, n < 32 → ((nI n &&& 31).toBitVec.smod 32).toNat = n := by decide +kernel
theorem s_u : ∀ n, n < 32 → (((nI n).toUInt32 &&& Int32.toUInt32 31).toBitVec % 32).toNat = n := by decide +kernel
theorem b_shl (n : Nat) (hn : n < 32) (x : Int32) {i : Nat} (hi : i < 32) : bt (x <<< (nI n &&& 31)) i = (decide (n ≤ i) && bt x (i - n)) := by
  unfold bt
  rw [Int32.toBitVec_shiftLeft]
  show (x.toBitVec <<< ((nI n &&& 31).toBitVec.smod 32).toNat).getLsbD i = _
  rw [s_l n hn, BitVec.getLsbD_shiftLeft]
  rcases Nat.lt_or_ge i n with h | h
  · simp [h, Nat.not_le.mpr h]
  · simp [hi, h, Nat.not_lt.mpr h]
theorem b_ushr (n : Nat) (hn : n < 32) (x : Int32) (i : Nat) : bt ((x.toUInt32 >>> ((nI n).toUInt32 &&& Int32.toUInt32 31)).toInt32) i = bt x (n + i) := by
  show (x.toUInt32 >>> ((nI n).toUInt32 &&& Int32.toUInt32 31)).toBitVec.getLsbD i = x.toUInt32.toBitVec.getLsbD (n + i)
  rw [UInt32.toBitVec_shiftRight]
  show (x.toUInt32.toBitVec >>> (((nI n).toUInt32 &&& Int32.toUInt32 31).toBitVec % 32).toNat).getLsbD i = _
  rw [s_u n hn, BitVec.getLsbD_ushiftRight]
theorem b_sshr (n : Nat) (hn : n < 32) (x : Int32) {i : Nat} (hi : i < 32) : bt (x >>> (nI n &&& 31)) i = if n + i < 32 then bt x (n + i) else bt x 31 := by
  unfold bt
  rw [Int32.toBitVec_shiftRight]
  show (x.toBitVec.sshiftRight ((nI n &&& 31).toBitVec.smod 32).toNat).getLsbD i = _
  rw [s_l n hn, BitVec.getLsbD_sshiftRight, BitVec.msb_eq_getLsbD_last]
  simp [hi]
theorem b_shl8 (x : Int32) {i : Nat} (hi : i < 32) : bt (x <<< ((8 : Int32) &&& 31)) i = (decide (8 ≤ i) && bt x (i - 8)) := b_shl 8 (by omega) x hi
theorem b_shl16 (x : Int32) {i : Nat} (hi : i < 32) : bt (x <<< ((16 : Int32) &&& 31)) i = (decide (16 ≤ i) && bt x (i - 16)) := b_shl 16 (by omega) x hi
theorem b_shl24 (x : Int32) {i : Nat} (hi : i < 32) : bt (x <<< ((24 : Int32) &&& 31)) i = (decide (24 ≤ i) && bt x (i - 24)) := b_shl 24 (by omega) x hi
theorem b_sshr8 (x : Int32) {i : Nat} (hi : i < 32) : bt (x >>> ((8 : Int32) &&& 31)) i = if 8 + i < 32 then bt x (8 + i) else bt x 31 := b_sshr 8 (by omega) x hi
end
section
/-! Sums, flows and cuts over a graph of N rules and 28 nodes: no machine here. -/
def sm (g : Nat → Int) : Nat → Int
  | 0 => 0
  | n + 1 => sm g n + g n
theorem sm_congr {g h : Nat → Int} : ∀ {n : Nat}, (∀ i, i < n → g i = h i) → sm g n = sm h n
  | 0, _ => rfl
  | n + 1, H => by
    show sm g n + g n = sm h n + h n
    rw [sm_congr (fun i hi => H i (Nat.lt_succ_of_lt hi)), H n (Nat.lt_succ_self n)]
theorem sm_le {g h : Nat → Int} : ∀ {n : Nat}, (∀ i, i < n → g i ≤ h i) → sm g n ≤ sm h n
  | 0, _ => Int.le_refl _
  | n + 1, H => by
    show sm g n + g n ≤ sm h n + h n
    have h1 := sm_le (fun i hi => H i (Nat.lt_succ_of_lt hi))
    have h2 := H n (Nat.lt_succ_self n)
    omega
theorem sm_add {g h : Nat → Int} : ∀ {n : Nat}, sm (fun i => g i + h i) n = sm g n + sm h n
  | 0 => rfl
  | n + 1 => by
    show sm (fun i => g i + h i) n + (g n + h n) = (sm g n + g n) + (sm h n + h n)
    rw [sm_add]; omega
theorem sm_sub {g h : Nat → Int} : ∀ {n : Nat}, sm (fun i => g i - h i) n = sm g n - sm h n
  | 0 => rfl
  | n + 1 => by
    show sm (fun i => g i - h i) n + (g n - h n) = (sm g n + g n) - (sm h n + h n)
    rw [sm_sub]; omega
theorem sm_zero {g : Nat → Int} : ∀ {n : Nat}, (∀ i, i < n → g i = 0) → sm g n = 0
  | 0, _ => rfl
  | n + 1, H => by
    show sm g n + g n = 0
    rw [sm_zero (fun i hi => H i (Nat.lt_succ_of_lt hi)), H n (Nat.lt_succ_self n)]; rfl
theorem sm_one {x : Int} {j : Nat} : ∀ {n : Nat}, j < n → sm (fun i => if i = j then x else 0) n = x
  | 0, h => absurd h (Nat.not_lt_zero j)
  | n + 1, h => by
    show sm (fun i => if i = j then x else 0) n + (if n = j then x else 0) = x
    rcases Nat.lt_or_ge j n with q | q
    · rw [sm_one q, if_neg (by omega)]; omega
    · have e : n = j := by omega
      rw [if_pos e, sm_zero (fun i hi => if_neg (by omega))]; omega
theorem sm_eq_of_le {g h : Nat → Int} : ∀ {n : Nat}, (∀ i, i < n → g i ≤ h i) → sm g n = sm h n → ∀ i, i < n → g i = h i
  | 0, _, _, i, hi => absurd hi (Nat.not_lt_zero i)
  | n + 1, H, E, i, hi => by
    have E : sm g n + g n = sm h n + h n := E
    have h1 := sm_le (fun i hi => H i (Nat.lt_succ_of_lt hi))
    have h2 := H n (Nat.lt_succ_self n)
    rcases Nat.lt_or_ge i n with q | q
    · exact sm_eq_of_le (fun i hi => H i (Nat.lt_succ_of_lt hi)) (by omega) i q
    · have e : i = n := by omega
      subst e; omega
/-- how many i below n have p -/
def ct (p : Nat → Bool) : Nat → Nat
  | 0 => 0
  | n + 1 => ct p n + (if p n = true then 1 else 0)
theorem ct_le {p : Nat → Bool} : ∀ n : Nat, ct p n ≤ n
  | 0 => Nat.le_refl 0
  | n + 1 => by
    show ct p n + (if p n = true then 1 else 0) ≤ n + 1
    have := ct_le (p := p) n
    split <;> omega
theorem ct_mono {p q : Nat → Bool} : ∀ {n : Nat}, (∀ i, i < n → p i = true → q i = true) → ct p n ≤ ct q n
  | 0, _ => Nat.le_refl 0
  | n + 1, H => by
    show ct p n + (if p n = true then 1 else 0) ≤ ct q n + (if q n = true then 1 else 0)
    have h1 := ct_mono (fun i hi => H i (Nat.lt_succ_of_lt hi))
    have h2 := H n (Nat.lt_succ_self n)
    by_cases hp : p n = true
    · rw [if_pos hp, if_pos (h2 hp)]; omega
    · rw [if_neg hp]; omega
theorem ct_lt {p q : Nat → Bool} {j : Nat} : ∀ {n : Nat}, (∀ i, i < n → p i = true → q i = true) → j < n → p j = false → q j = true → ct p n < ct q n
  | 0, _, h, _, _ => absurd h (Nat.not_lt_zero j)
  | n + 1, H, hj, hp, hq => by
    show ct p n + (if p n = true then 1 else 0) < ct q n + (if q n = true then 1 else 0)
    rcases Nat.lt_or_ge j n with r | r
    · have h1 := ct_lt (fun i hi => H i (Nat.lt_succ_of_lt hi)) r hp hq
      have h2 := H n (Nat.lt_succ_self n)
      by_cases hpn : p n = true
      · rw [if_pos hpn, if_pos (h2 hpn)]; omega
      · rw [if_neg hpn]; omega
    · have e : j = n := by omega
      subst e
      have h1 := ct_mono (fun i hi => H i (Nat.lt_succ_of_lt hi))
      rw [if_neg (by rw [hp]; decide), if_pos hq]; omega
theorem ct_full {p : Nat → Bool} {n : Nat} (h : n ≤ ct p n) {i : Nat} (hi : i < n) : p i = true := by
  cases hp : p i with
  | true => rfl
  | false =>
    have h1 := ct_lt (p := p) (q := fun _ => true) (fun _ _ _ => rfl) hi hp rfl
    have h2 := ct_le (p := fun _ => true) n
    omega
theorem ct_congr {p q : Nat → Bool} {n : Nat} (h : ∀ i, i < n → p i = q i) : ct p n = ct q n :=
  Nat.le_antisymm (ct_mono fun i hi hp => by rw [← h i hi]; exact hp) (ct_mono fun i hi hp => by rw [h i hi]; exact hp)
section FL
variable (N : Nat) (b e : Nat → Nat) (c : Nat → Int) (on : Nat → Bool)
/-- what leaves v less what comes to it -/
def fl_net (f : Nat → Int) (v : Nat) : Int := sm (fun r => (if b r = v then f r else 0) - (if e r = v then f r else 0)) N
def fl_bd (f : Nat → Int) : Prop := ∀ r, r < N → 0 ≤ f r ∧ f r ≤ (if on r = true then c r else 0)
def fl_flow (s t : Nat) (f : Nat → Int) (z : Int) : Prop := fl_bd N c on f ∧ ∀ v, v < 28 → fl_net N b e f v = (if v = s then z else 0) - (if v = t then z else 0)
def fl_cap (S : Nat → Bool) : Int := sm (fun r => if on r = true ∧ S (b r) = true ∧ S (e r) = false then c r else 0) N
/-- nothing goes on out of S -/
def fl_clo (f : Nat → Int) (S : Nat → Bool) : Prop := ∀ r, r < N → (on r = true → S (b r) = true → f r < c r → S (e r) = true) ∧ (S (e r) = true → 0 < f r → S (b r) = true)
theorem fl_ends {S : Nat → Bool} {x : Int} {u : Nat} (hu : u < 28) : sm (fun v => if S v = true then (if u = v then x else 0) else 0) 28 = if S u = true then x else 0 := by
  have h1 : sm (fun v => if S v = true then (if u = v then x else 0) else 0) 28 = sm (fun v => if v = u then (if S u = true then x else 0) else 0) 28 := sm_congr fun v _ => by
    by_cases hv : v = u
    · subst hv; simp
    · rw [if_neg hv, if_neg (fun q : u = v => hv q.symm)]; simp
  rw [h1, sm_one hu]
theorem fl_swap {f : Nat → Int} {S : Nat → Bool} (hb : ∀ r, r < N → b r < 28) (he : ∀ r, r < N → e r < 28) :
    sm (fun v => if S v = true then fl_net N b e f v else 0) 28 = sm (fun r => (if S (b r) = true then f r else 0) - (if S (e r) = true then f r else 0)) N := by
  induction N with
  | zero =>
    show sm (fun v => if S v = true then (0 : Int) else 0) 28 = 0
    exact sm_zero fun v _ => by simp
  | succ n ih =>
    have h1 : sm (fun v => if S v = true then fl_net (n + 1) b e f v else 0) 28 = sm (fun v => (if S v = true then fl_net n b e f v else 0) + ((if S v = true then (if b n = v then f n else 0) else 0) - (if S v = true then (if e n = v then f n else 0) else 0))) 28 := sm_congr fun v _ => by
      have e1 : fl_net (n + 1) b e f v = fl_net n b e f v + ((if b n = v then f n else 0) - (if e n = v then f n else 0)) := rfl
      rw [e1]
      by_cases hS : S v = true
      · rw [if_pos hS, if_pos hS, if_pos hS, if_pos hS]
      · rw [if_neg hS, if_neg hS, if_neg hS, if_neg hS]; rfl
    have h2 : sm (fun v => (if S v = true then (if b n = v then f n else 0) else 0) - (if S v = true then (if e n = v then f n else 0) else 0)) 28 = (if S (b n) = true then f n else 0) - (if S (e n) = true then f n else 0) := by
      rw [sm_sub, fl_ends (hb n (Nat.lt_succ_self n)), fl_ends (he n (Nat.lt_succ_self n))]
    rw [h1, sm_add, ih (fun r hr => hb r (Nat.lt_succ_of_lt hr)) (fun r hr => he r (Nat.lt_succ_of_lt hr)), h2]
    rfl
variable {N b e c on}
theorem fl_value {s t : Nat} {f : Nat → Int} {z : Int} {S : Nat → Bool} (hb : ∀ r, r < N → b r < 28) (he : ∀ r, r < N → e r < 28) (hs : s < 28) (hf : fl_flow N b e c on s t f z) (h1 : S s = true) (h2 : S t = false) :
    z = sm (fun r => (if S (b r) = true then f r else 0) - (if S (e r) = true then f r else 0)) N := by
  rw [← fl_swap N b e hb he]
  have h3 : sm (fun v => if S v = true then fl_net N b e f v else 0) 28 = sm (fun v => if v = s then z else 0) 28 := sm_congr fun v hv => by
    rw [hf.2 v hv]
    by_cases a : v = s
    · subst a
      have : v ≠ t := fun q => by rw [q, h2] at h1; cases h1
      rw [if_pos h1, if_pos rfl, if_neg this]; omega
    · rw [if_neg a]
      by_cases q : v = t
      · subst q; rw [h2]; rfl
      · rw [if_neg q]; simp
  rw [h3, sm_one hs]
theorem fl_term {f : Nat → Int} {S : Nat → Bool} (hbd : fl_bd N c on f) {r : Nat} (hr : r < N) :
    (if S (b r) = true then f r else 0) - (if S (e r) = true then f r else 0) ≤ (if on r = true ∧ S (b r) = true ∧ S (e r) = false then c r else 0) := by
  obtain ⟨h0, h1⟩ := hbd r hr
  cases hB : S (b r) <;> cases hE : S (e r) <;> cases hO : on r <;> simp [hO] at h1 ⊢ <;> omega
theorem fl_le {s t : Nat} {f : Nat → Int} {z : Int} {S : Nat → Bool} (hb : ∀ r, r < N → b r < 28) (he : ∀ r, r < N → e r < 28) (hs : s < 28) (hf : fl_flow N b e c on s t f z) (h1 : S s = true) (h2 : S t = false) : z ≤ fl_cap N b e c on S := by
  rw [fl_value hb he hs hf h1 h2]
  exact sm_le fun r hr => fl_term hf.1 hr
theorem fl_eq {s t : Nat} {f : Nat → Int} {z : Int} {S : Nat → Bool} (hb : ∀ r, r < N → b r < 28) (he : ∀ r, r < N → e r < 28) (hs : s < 28) (hf : fl_flow N b e c on s t f z) (h1 : S s = true) (h2 : S t = false) (hc : fl_clo N b e c on f S) : z = fl_cap N b e c on S := by
  rw [fl_value hb he hs hf h1 h2]
  refine sm_congr fun r hr => ?_
  obtain ⟨q0, q1⟩ := hf.1 r hr
  obtain ⟨c1, c2⟩ := hc r hr
  cases hB : S (b r) <;> cases hE : S (e r) <;> cases hO : on r <;> simp [hB, hE, hO] at q1 c1 c2 ⊢ <;> omega
theorem fl_clo_of {s t : Nat} {f : Nat → Int} {z : Int} {S : Nat → Bool} (hb : ∀ r, r < N → b r < 28) (he : ∀ r, r < N → e r < 28) (hs : s < 28) (hf : fl_flow N b e c on s t f z) (h1 : S s = true) (h2 : S t = false) (hz : z = fl_cap N b e c on S) : fl_clo N b e c on f S := by
  rw [fl_value hb he hs hf h1 h2] at hz
  have hq := sm_eq_of_le (fun r hr => fl_term hf.1 hr) hz
  intro r hr
  have h := hq r hr
  obtain ⟨q0, q1⟩ := hf.1 r hr
  cases hB : S (b r) <;> cases hE : S (e r) <;> cases hO : on r <;> simp [hB, hE, hO] at q1 h ⊢ <;> omega
/-- S is what s comes to, and no more -/
def fl_least (s : Nat) (N : Nat) (b e : Nat → Nat) (c : Nat → Int) (on : Nat → Bool) (f : Nat → Int) (S : Nat → Bool) : Prop := ∀ T : Nat → Bool, T s = true → fl_clo N b e c on f T → ∀ v, S v = true → T v = true
theorem fl_unique {s t : Nat} {f g : Nat → Int} {z y : Int} {S T : Nat → Bool} (hb : ∀ r, r < N → b r < 28) (he : ∀ r, r < N → e r < 28) (hs : s < 28) (hf : fl_flow N b e c on s t f z) (hg : fl_flow N b e c on s t g y)
    (s1 : S s = true) (s2 : S t = false) (s3 : fl_clo N b e c on f S) (s4 : fl_least s N b e c on f S) (t1 : T s = true) (t2 : T t = false) (t3 : fl_clo N b e c on g T) (t4 : fl_least s N b e c on g T) : z = y ∧ ∀ v, S v = T v := by
  have a1 := fl_eq hb he hs hf s1 s2 s3
  have a2 := fl_eq hb he hs hg t1 t2 t3
  have a3 := fl_le hb he hs hf t1 t2
  have a4 := fl_le hb he hs hg s1 s2
  refine ⟨by omega, fun v => ?_⟩
  have h1 := s4 T t1 (fl_clo_of hb he hs hf t1 t2 (by omega)) v
  have h2 := t4 S s1 (fl_clo_of hb he hs hg s1 s2 (by omega)) v
  cases hS : S v <;> cases hT : T v
  · rfl
  · rw [h2 hT] at hS; cases hS
  · rw [h1 hS] at hT; cases hT
  · rfl
/-- one rule's flow changed: what that does to each node -/
theorem fl_net_upd {f : Nat → Int} {q : Nat} {x : Int} (hq : q < N) (v : Nat) :
    fl_net N b e (fun r => if r = q then f q + x else f r) v = fl_net N b e f v + ((if b q = v then x else 0) - (if e q = v then x else 0)) := by
  have h : fl_net N b e (fun r => if r = q then f q + x else f r) v = sm (fun r => ((if b r = v then f r else 0) - (if e r = v then f r else 0)) + (if r = q then ((if b q = v then x else 0) - (if e q = v then x else 0)) else 0)) N := sm_congr fun r _ => by
    by_cases hr : r = q
    · subst hr
      simp only [if_true]
      by_cases h1 : b r = v <;> by_cases h2 : e r = v <;> simp [h1, h2] <;> omega
    · simp [hr]
  rw [h, sm_add, sm_one hq]; rfl
end FL
end
section
/-! The nodes found from s, each by a rule with room, and a push along them. -/
section TR
variable (N : Nat) (b e : Nat → Nat) (c : Nat → Int) (on : Nat → Bool) (s : Nat)
def tr_prev (vr : Nat → Nat) (v : Nat) : Nat := if e (vr v) = v then b (vr v) else e (vr v)
def tr_room (f : Nat → Int) (vr : Nat → Nat) (v : Nat) : Int := if e (vr v) = v then c (vr v) - f (vr v) else f (vr v)
def tr_put (f : Nat → Int) (vr : Nat → Nat) (v : Nat) (a : Int) : Nat → Int := fun r => if r = vr v then f (vr v) + (if e (vr v) = v then a else -a) else f r
def tr_tree (f : Nat → Int) (R : Nat → Bool) (vr rk : Nat → Nat) (K : Nat) : Prop :=
  R s = true ∧ (∀ v, R v = true → v < 28 ∧ rk v < K) ∧ ∀ v, R v = true → v ≠ s → vr v < N ∧ on (vr v) = true ∧ R (tr_prev b e vr v) = true ∧ rk (tr_prev b e vr v) < rk v ∧ 0 < tr_room e c f vr v ∧ (e (vr v) = v ∨ b (vr v) = v)
def tr_pu (vr : Nat → Nat) (a : Int) : Nat → (Nat → Int) → Nat → (Nat → Int)
  | 0, f, _ => f
  | k + 1, f, v => if v = s then f else tr_pu vr a k (tr_put e f vr v a) (tr_prev b e vr v)
def tr_ok (f : Nat → Int) (vr : Nat → Nat) (a : Int) : Nat → Nat → Prop
  | 0, _ => True
  | k + 1, v => v = s ∨ (a ≤ tr_room e c f vr v ∧ tr_ok f vr a k (tr_prev b e vr v))
variable {N b e c on s}
theorem tr_inj {f : Nat → Int} {R : Nat → Bool} {vr rk : Nat → Nat} {K : Nat} (h : tr_tree N b e c on s f R vr rk K) {u v : Nat} (hu : R u = true) (hus : u ≠ s) (hv : R v = true) (hvs : v ≠ s) (hr : vr u = vr v) : u = v := by
  obtain ⟨-, -, -, r1, -, d1⟩ := h.2.2 u hu hus
  obtain ⟨-, -, -, r2, -, d2⟩ := h.2.2 v hv hvs
  unfold tr_prev at r1 r2
  rw [← hr] at r2 d2
  rcases d1 with d1 | d1 <;> rcases d2 with d2 | d2
  · exact d1.symm.trans d2
  · by_cases q : e (vr u) = v
    · exact d1.symm.trans q
    · rw [if_pos d1, d2] at r1
      rw [if_neg q, d1] at r2
      omega
  · by_cases q : e (vr u) = u
    · exact q.symm.trans d2
    · rw [if_neg q, d2] at r1
      rw [if_pos d2, d1] at r2
      omega
  · exact d1.symm.trans d2
theorem tr_least {f : Nat → Int} {R : Nat → Bool} {vr rk : Nat → Nat} {K : Nat} (h : tr_tree N b e c on s f R vr rk K) : fl_least s N b e c on f R := by
  intro T hT hc
  have key : ∀ n v, rk v < n → R v = true → T v = true := by
    intro n
    induction n with
    | zero => intro v hv; omega
    | succ n ih =>
      intro v hv hR
      by_cases hs : v = s
      · rw [hs]; exact hT
      · obtain ⟨h1, h2, h3, h4, h5, h6⟩ := h.2.2 v hR hs
        have hp := ih _ (by omega) h3
        unfold tr_prev at hp
        unfold tr_room at h5
        by_cases q : e (vr v) = v
        · rw [if_pos q] at hp h5
          have := (hc _ h1).1 h2 hp (by omega)
          rw [q] at this; exact this
        · rw [if_neg q] at hp h5
          have h7 : b (vr v) = v := h6.resolve_left q
          have := (hc _ h1).2 hp h5
          rw [h7] at this; exact this
  intro v hv
  exact key _ v (Nat.lt_succ_self _) hv
theorem tr_push {f0 : Nat → Int} {R : Nat → Bool} {vr rk : Nat → Nat} {K : Nat} {a : Int} (h : tr_tree N b e c on s f0 R vr rk K) (ha : 0 ≤ a) :
    ∀ (k : Nat) (f : Nat → Int) (v : Nat), R v = true → rk v < k → tr_ok b e c s f0 vr a k v → fl_bd N c on f → (∀ u, R u = true → u ≠ s → rk u ≤ rk v → f (vr u) = f0 (vr u)) →
      fl_bd N c on (tr_pu b e s vr a k f v) ∧ ∀ w, fl_net N b e (tr_pu b e s vr a k f v) w = fl_net N b e f w + ((if s = w then a else 0) - (if v = w then a else 0)) := by
  intro k
  induction k with
  | zero => intro f v _ hv; omega
  | succ k ih =>
    intro f v hR hk hok hbd hag
    by_cases hs : v = s
    · have e1 : tr_pu b e s vr a (k + 1) f v = f := by show (if v = s then f else _) = f; rw [if_pos hs]
      rw [e1]
      refine ⟨hbd, fun w => ?_⟩
      rw [hs]; omega
    · have e1 : tr_pu b e s vr a (k + 1) f v = tr_pu b e s vr a k (tr_put e f vr v a) (tr_prev b e vr v) := by show (if v = s then f else _) = _; rw [if_neg hs]
      rw [e1]
      obtain ⟨h1, h2, h3, h4, h5, h6⟩ := h.2.2 v hR hs
      have hfr : f (vr v) = f0 (vr v) := hag v hR hs (Nat.le_refl _)
      obtain ⟨ho1, ho2⟩ := hok.resolve_left hs
      have hb2 : fl_bd N c on (tr_put e f vr v a) := by
        intro r hr
        unfold tr_put
        by_cases q : r = vr v
        · rw [if_pos q]
          subst q
          obtain ⟨b1, b2⟩ := hbd _ hr
          rw [if_pos h2] at b2 ⊢
          unfold tr_room at ho1
          rw [← hfr] at ho1
          by_cases w : e (vr v) = v
          · rw [if_pos w] at ho1 ⊢; omega
          · rw [if_neg w] at ho1 ⊢; omega
        · rw [if_neg q]; exact hbd r hr
      have hag2 : ∀ u, R u = true → u ≠ s → rk u ≤ rk (tr_prev b e vr v) → tr_put e f vr v a (vr u) = f0 (vr u) := by
        intro u hu hus hru
        have hne : vr u ≠ vr v := fun q => by
          have := tr_inj h hu hus hR hs q
          subst this; omega
        show (if vr u = vr v then _ else f (vr u)) = _
        rw [if_neg hne]
        exact hag u hu hus (by omega)
      obtain ⟨i1, i2⟩ := ih (tr_put e f vr v a) (tr_prev b e vr v) h3 (by omega) ho2 hb2 hag2
      refine ⟨i1, fun w => ?_⟩
      rw [i2 w]
      have hn : fl_net N b e (tr_put e f vr v a) w = fl_net N b e f w + ((if b (vr v) = w then (if e (vr v) = v then a else -a) else 0) - (if e (vr v) = w then (if e (vr v) = v then a else -a) else 0)) := fl_net_upd h1 w
      rw [hn]
      unfold tr_prev
      by_cases q : e (vr v) = v
      · simp only [if_pos q]
        rw [q]
        omega
      · have h7 : b (vr v) = v := h6.resolve_left q
        simp only [if_neg q]
        rw [h7]
        by_cases w1 : v = w <;> by_cases w2 : e (vr v) = w <;> simp [w1, w2] <;> omega
theorem tr_aug {f : Nat → Int} {R : Nat → Bool} {vr rk : Nat → Nat} {K k t : Nat} {a z : Int} (h : tr_tree N b e c on s f R vr rk K) (ha : 0 ≤ a) (hst : s ≠ t) (hR : R t = true) (hk : rk t < k) (hok : tr_ok b e c s f vr a k t) (hf : fl_flow N b e c on s t f z) :
    fl_flow N b e c on s t (tr_pu b e s vr a k f t) (z + a) := by
  obtain ⟨h1, h2⟩ := tr_push h ha k f t hR hk hok hf.1 (fun _ _ _ _ => rfl)
  refine ⟨h1, fun v hv => ?_⟩
  rw [h2 v, hf.2 v hv]
  by_cases q1 : v = s
  · have q2 : v ≠ t := fun q => hst (q1.symm.trans q)
    rw [if_pos q1, if_pos q1, if_neg q2, if_neg q2, if_pos q1.symm, if_neg (fun q => q2 q.symm)]; omega
  · by_cases q2 : v = t
    · rw [if_neg q1, if_neg q1, if_pos q2, if_pos q2, if_neg (fun q => q1 q.symm), if_pos q2.symm]; omega
    · rw [if_neg q1, if_neg q1, if_neg q2, if_neg q2, if_neg (fun q => q1 q.symm), if_neg (fun q => q2 q.symm)]; omega
/-- one more node is found -/
theorem tr_add {f : Nat → Int} {R : Nat → Bool} {vr rk : Nat → Nat} {K : Nat} (h : tr_tree N b e c on s f R vr rk K) {v q : Nat} (hv : v < 28) (hR : R v = false) (hq : q < N) (hon : on q = true) (hne : b q ≠ e q)
    (hd : (e q = v ∧ R (b q) = true ∧ f q < c q) ∨ (b q = v ∧ R (e q) = true ∧ 0 < f q)) :
    tr_tree N b e c on s f (fun w => R w || decide (w = v)) (fun w => if w = v then q else vr w) (fun w => if w = v then K else rk w) (K + 1) := by
  obtain ⟨h1, h2, h3⟩ := h
  have hvs : v ≠ s := fun w => by rw [w, h1] at hR; cases hR
  refine ⟨by simp [h1], fun w hw => ?_, fun w hw hws => ?_⟩
  · by_cases e1 : w = v
    · simp [e1]; exact hv
    · have hw' : R w = true := by simpa [e1] using hw
      have := h2 w hw'
      simp [e1]; omega
  · by_cases e1 : w = v
    · subst e1
      have hpr : tr_prev b e (fun x => if x = w then q else vr x) w = if e q = w then b q else e q := by unfold tr_prev; simp
      have hro : tr_room e c f (fun x => if x = w then q else vr x) w = if e q = w then c q - f q else f q := by unfold tr_room; simp
      rw [hpr, hro]
      simp only [if_true]
      rcases hd with ⟨d1, d2, d3⟩ | ⟨d1, d2, d3⟩
      · have hb : b q ≠ w := fun x => hne (x.trans d1.symm)
        rw [if_pos d1, if_pos d1]
        refine ⟨hq, hon, by simp [d2], ?_, by omega, Or.inl d1⟩
        rw [if_neg hb]; exact (h2 _ d2).2
      · have he : e q ≠ w := fun x => hne (d1.trans x.symm)
        simp only [if_neg he]
        exact ⟨hq, hon, by simp [d2], (h2 _ d2).2, d3, Or.inr d1⟩
    · have hw' : R w = true := by simpa [e1] using hw
      obtain ⟨a1, a2, a3, a4, a5, a6⟩ := h3 w hw' hws
      have hpr : tr_prev b e (fun x => if x = v then q else vr x) w = tr_prev b e vr w := by unfold tr_prev; simp [e1]
      have hro : tr_room e c f (fun x => if x = v then q else vr x) w = tr_room e c f vr w := by unfold tr_room; simp [e1]
      have hpv : tr_prev b e vr w ≠ v := fun x => by rw [x, hR] at a3; cases a3
      rw [hpr, hro]
      simp only [if_neg e1, if_neg hpv]
      exact ⟨a1, a2, by simp [a3], a4, a5, a6⟩
theorem tr_start (f : Nat → Int) (vr : Nat → Nat) (hs : s < 28) : tr_tree N b e c on s f (fun w => decide (w = s)) vr (fun _ => 0) 1 := by
  refine ⟨by simp, fun v hv => ⟨?_, Nat.lt_succ_self 0⟩, fun v hv hvs => ?_⟩
  · have : v = s := by simpa using hv
    rw [this]; exact hs
  · have : v = s := by simpa using hv
    exact absurd this hvs
theorem tr_congr {f : Nat → Int} {R R' : Nat → Bool} {vr vr' rk : Nat → Nat} {K : Nat} (h : tr_tree N b e c on s f R vr rk K) (hR : ∀ v, R v = R' v) (hvr : ∀ v, R v = true → v ≠ s → vr v = vr' v) : tr_tree N b e c on s f R' vr' rk K := by
  obtain ⟨h1, h2, h3⟩ := h
  refine ⟨by rw [← hR]; exact h1, fun v hv => h2 v (by rw [hR]; exact hv), fun v hv hvs => ?_⟩
  have hv' : R v = true := by rw [hR]; exact hv
  obtain ⟨a1, a2, a3, a4, a5, a6⟩ := h3 v hv' hvs
  have e1 := hvr v hv' hvs
  have hpr : tr_prev b e vr' v = tr_prev b e vr v := by unfold tr_prev; rw [e1]
  have hro : tr_room e c f vr' v = tr_room e c f vr v := by unfold tr_room; rw [e1]
  rw [hpr, hro, ← e1, ← hR]
  exact ⟨a1, a2, a3, a4, a5, a6⟩
end TR
end
section
/-! Ways over the rules that may be used (ok), and their lengths: no machine here. -/
section WY
variable (N : Nat) (b e : Nat → Nat) (ok : Nat → Bool)
/-- a way of d rules from x to y -/
def wk : Nat → Nat → Nat → Prop
  | 0, x, y => x = y
  | d + 1, x, y => ∃ r, r < N ∧ ok r = true ∧ b r = x ∧ wk d (e r) y
/-- d is the length of the least way from x to y -/
def wd (y d x : Nat) : Prop := wk N b e ok d x y ∧ ∀ i, i < d → ¬ wk N b e ok i x y
variable {N b e ok}
theorem wk_snoc : ∀ {d x y r : Nat}, wk N b e ok d x y → r < N → ok r = true → b r = y → wk N b e ok (d + 1) x (e r)
  | 0, x, y, r, h, h1, h2, h3 => ⟨r, h1, h2, h3.trans (show x = y from h).symm, rfl⟩
  | d + 1, x, y, r, ⟨q, a1, a2, a3, a4⟩, h1, h2, h3 => ⟨q, a1, a2, a3, wk_snoc a4 h1 h2 h3⟩
theorem wk_fwd {T : Nat → Bool} (hT : ∀ r, r < N → ok r = true → T (b r) = true → T (e r) = true) : ∀ {d x y : Nat}, wk N b e ok d x y → T x = true → T y = true
  | 0, x, y, h, hx => by rw [← (show x = y from h)]; exact hx
  | d + 1, x, y, ⟨r, h1, h2, h3, h4⟩, hx => wk_fwd hT h4 (hT r h1 h2 (by rw [h3]; exact hx))
theorem wk_bwd {T : Nat → Bool} (hT : ∀ r, r < N → ok r = true → T (e r) = true → T (b r) = true) : ∀ {d x y : Nat}, wk N b e ok d x y → T y = true → T x = true
  | 0, x, y, h, hx => by rw [(show x = y from h)]; exact hx
  | d + 1, x, y, ⟨r, h1, h2, h3, h4⟩, hx => by rw [← h3]; exact hT r h1 h2 (wk_bwd hT h4 hx)
theorem wk_app : ∀ {d i x y z : Nat}, wk N b e ok d x y → wk N b e ok i y z → wk N b e ok (d + i) x z
  | 0, i, x, y, z, h, h2 => by rw [Nat.zero_add, (show x = y from h)]; exact h2
  | d + 1, i, x, y, z, ⟨r, h1, h2, h3, h4⟩, k => by
    rw [Nat.succ_add]
    exact ⟨r, h1, h2, h3, wk_app h4 k⟩
theorem wk_rev : ∀ {d x y : Nat}, wk N b e ok d x y → wk N e b ok d y x
  | 0, x, y, h => (show x = y from h).symm
  | d + 1, x, y, ⟨r, h1, h2, h3, h4⟩ => by
    have := wk_snoc (wk_rev h4) h1 h2 rfl
    rw [h3] at this; exact this
theorem wk_congr {ok2 : Nat → Bool} : ∀ {d x y : Nat}, (∀ r, r < N → ok r = true → ok2 r = true) → wk N b e ok d x y → wk N b e ok2 d x y
  | 0, x, y, _, h => h
  | d + 1, x, y, H, ⟨r, h1, h2, h3, h4⟩ => ⟨r, h1, H r h1 h2, h3, wk_congr H h4⟩
theorem wd_unique {y d i x : Nat} (h1 : wd N b e ok y d x) (h2 : wd N b e ok y i x) : d = i := by
  rcases Nat.lt_trichotomy d i with q | q | q
  · exact absurd h1.1 (h2.2 d q)
  · exact q
  · exact absurd h2.1 (h1.2 i q)
/-- of a way there is a least one -/
theorem wd_of {y x : Nat} : ∀ {d : Nat}, wk N b e ok d x y → ∃ i, i ≤ d ∧ wd N b e ok y i x := by
  intro d
  induction d using Nat.strongRecOn with
  | _ d ih =>
    intro h
    by_cases q : ∃ i, i < d ∧ wk N b e ok i x y
    · obtain ⟨i, hi, hw⟩ := q
      obtain ⟨j, hj, hd⟩ := ih i hi hw
      exact ⟨j, by omega, hd⟩
    · exact ⟨d, Nat.le_refl d, h, fun i hi hw => q ⟨i, hi, hw⟩⟩
/-- on a least way the next node is one nearer -/
theorem wd_next {y d x : Nat} (h : wd N b e ok y (d + 1) x) : ∃ r, r < N ∧ ok r = true ∧ b r = x ∧ wd N b e ok y d (e r) := by
  obtain ⟨⟨r, h1, h2, h3, h4⟩, h5⟩ := h
  exact ⟨r, h1, h2, h3, h4, fun i hi hw => h5 (i + 1) (by omega) ⟨r, h1, h2, h3, hw⟩⟩
/-- F holds the lengths of the least ways to t, up to m -/
def wf_to (N : Nat) (b e : Nat → Nat) (ok : Nat → Bool) (t m : Nat) (F : Nat → Int32) : Prop :=
  ∀ x, x < 28 → (∃ d, d ≤ m ∧ F x = nI d ∧ wd N b e ok t d x) ∨ (F x = -1 ∧ ∀ d, d ≤ m → ¬ wk N b e ok d x t)
/-- F holds the lengths of the least ways to t -/
def wf_all (N : Nat) (b e : Nat → Nat) (ok : Nat → Bool) (t : Nat) (F : Nat → Int32) : Prop :=
  ∀ x, x < 28 → (∃ d, d ≤ 28 ∧ F x = nI d ∧ wd N b e ok t d x) ∨ (F x = -1 ∧ ∀ d, ¬ wk N b e ok d x t)
/-- while the nodes of length m + 1 are being found: the rules below i are through -/
def wf_in (N : Nat) (b e : Nat → Nat) (ok : Nat → Bool) (t m i : Nat) (F : Nat → Int32) : Prop :=
  ∀ x, x < 28 → (∃ d, d ≤ m + 1 ∧ F x = nI d ∧ wd N b e ok t d x) ∨ (F x = -1 ∧ (∀ d, d ≤ m → ¬ wk N b e ok d x t) ∧ ∀ r, r < i → r < N → ok r = true → b r = x → ¬ wk N b e ok m (e r) t)
theorem wf_begin {t m : Nat} {F : Nat → Int32} (h : wf_to N b e ok t m F) : wf_in N b e ok t m 0 F := by
  intro x hx
  rcases h x hx with ⟨d, h1, h2, h3⟩ | ⟨h1, h2⟩
  · exact Or.inl ⟨d, by omega, h2, h3⟩
  · exact Or.inr ⟨h1, h2, fun r hr => absurd hr (Nat.not_lt_zero r)⟩
theorem wf_end {t m : Nat} {F : Nat → Int32} (h : wf_in N b e ok t m N F) : wf_to N b e ok t (m + 1) F := by
  intro x hx
  rcases h x hx with h | ⟨h1, h2, h3⟩
  · exact Or.inl h
  · refine Or.inr ⟨h1, fun d hd => ?_⟩
    rcases Nat.lt_or_ge d (m + 1) with q | q
    · exact h2 d (by omega)
    · have e1 : d = m + 1 := by omega
      subst e1
      rintro ⟨r, a1, a2, a3, a4⟩
      exact h3 r a1 a1 a2 a3 a4
theorem nI_m1 {d : Nat} (h : d < 2 ^ 31) : nI d ≠ -1 := fun q => by
  have h1 := nI_pos' h
  rw [q] at h1
  exact absurd h1 (by decide)
/-- a rule that finds no node -/
theorem wf_skip {t m i : Nat} {F : Nat → Int32} (hm : m < 28) (he : ∀ r, r < N → e r < 28) (h : wf_in N b e ok t m i F) (hs : i < N → ok i = true → F (b i) = -1 → F (e i) ≠ nI m) : wf_in N b e ok t m (i + 1) F := by
  intro x hx
  rcases h x hx with h1 | ⟨h1, h2, h3⟩
  · exact Or.inl h1
  · refine Or.inr ⟨h1, h2, fun r hr hrN hro hrx hw => ?_⟩
    rcases Nat.lt_or_ge r i with q | q
    · exact h3 r q hrN hro hrx hw
    · have e1 : r = i := by omega
      subst e1
      have hF := hs hrN hro (by rw [hrx]; exact h1)
      obtain ⟨d, hd, hwd⟩ := wd_of hw
      rcases h (e r) (he r hrN) with ⟨d2, a1, a2, a3⟩ | ⟨a1, a2, a3⟩
      · have e2 := wd_unique hwd a3
        subst e2
        rcases Nat.lt_or_ge d m with q2 | q2
        · exact h2 (d + 1) (by omega) ⟨r, hrN, hro, hrx, hwd.1⟩
        · have e3 : d = m := by omega
          subst e3; exact hF a2
      · exact a2 m (Nat.le_refl m) hw
/-- a rule that finds one -/
theorem wf_hit {t m i : Nat} {F : Nat → Int32} (hm : m < 28) (hi : i < N) (ho : ok i = true) (he : ∀ r, r < N → e r < 28) (h : wf_in N b e ok t m i F) (h1 : F (b i) = -1) (h2 : F (e i) = nI m) : wf_in N b e ok t m (i + 1) (upd F (b i) (nI (m + 1))) := by
  have hwm : wd N b e ok t m (e i) := by
    rcases h (e i) (he i hi) with ⟨d, a1, a2, a3⟩ | ⟨a1, -⟩
    · have e1 : d = m := (nI_eq (by omega) (by omega)).mp (a2.symm.trans h2)
      subst e1; exact a3
    · rw [a1] at h2
      exact absurd h2.symm (nI_m1 (by omega))
  intro x hx
  by_cases q : x = b i
  · subst q
    refine Or.inl ⟨m + 1, Nat.le_refl _, pk_us, ⟨i, hi, ho, rfl, hwm.1⟩, fun d hd => ?_⟩
    rcases h (b i) hx with ⟨d2, a1, a2, -⟩ | ⟨-, a2, -⟩
    · rw [a2] at h1
      exact absurd h1 (nI_m1 (by omega))
    · exact a2 d (by omega)
  · rcases h x hx with ⟨d, a1, a2, a3⟩ | ⟨a1, a2, a3⟩
    · exact Or.inl ⟨d, a1, by rw [pk_un q]; exact a2, a3⟩
    · refine Or.inr ⟨by rw [pk_un q]; exact a1, a2, fun r hr hrN hro hrx => ?_⟩
      rcases Nat.lt_or_ge r i with w | w
      · exact a3 r w hrN hro hrx
      · have e1 : r = i := by omega
        subst e1; exact absurd hrx.symm q
/-- nothing was found at m + 1: there is nothing farther -/
theorem wf_stop {t m : Nat} {F : Nat → Int32} (hm : m < 28) (he : ∀ r, r < N → e r < 28) (h : wf_to N b e ok t (m + 1) F) (hn : ∀ x, x < 28 → F x ≠ nI (m + 1)) : wf_all N b e ok t F := by
  have key : ∀ d x, x < 28 → F x = -1 → ¬ wk N b e ok d x t := by
    intro d
    induction d with
    | zero =>
      intro x hx hF
      rcases h x hx with ⟨d, a1, a2, -⟩ | ⟨-, a2⟩
      · rw [hF] at a2; exact absurd a2.symm (nI_m1 (by omega))
      · exact a2 0 (by omega)
    | succ d ih =>
      intro x hx hF hw
      rcases h x hx with ⟨d2, a1, a2, -⟩ | ⟨-, a2⟩
      · rw [hF] at a2; exact absurd a2.symm (nI_m1 (by omega))
      · obtain ⟨r, b1, b2, b3, b4⟩ := hw
        rcases h (e r) (he r b1) with ⟨d2, c1, c2, c3⟩ | ⟨c1, -⟩
        · have c4 : d2 ≠ m + 1 := fun q => hn (e r) (he r b1) (by rw [c2, q])
          exact a2 (d2 + 1) (by omega) ⟨r, b1, b2, b3, c3.1⟩
        · exact ih (e r) (he r b1) c1 b4
  intro x hx
  rcases h x hx with ⟨d, a1, a2, a3⟩ | ⟨a1, -⟩
  · exact Or.inl ⟨d, by omega, a2, a3⟩
  · exact Or.inr ⟨a1, fun d => key d x hx a1⟩
/-- all nodes have their lengths -/
theorem wf_full {t m : Nat} {F : Nat → Int32} (hm : m ≤ 28) (h : wf_to N b e ok t m F) (hf : ∀ x, x < 28 → F x ≠ -1) : wf_all N b e ok t F := by
  intro x hx
  rcases h x hx with ⟨d, a1, a2, a3⟩ | ⟨a1, -⟩
  · exact Or.inl ⟨d, by omega, a2, a3⟩
  · exact absurd a1 (hf x hx)
theorem wf_same {t : Nat} {F K : Nat → Int32} (h1 : wf_all N b e ok t F) (h2 : wf_all N b e ok t K) {x : Nat} (hx : x < 28) : F x = K x := by
  rcases h1 x hx with ⟨d, a1, a2, a3⟩ | ⟨a1, a2⟩ <;> rcases h2 x hx with ⟨i, c1, c2, c3⟩ | ⟨c1, c2⟩
  · rw [a2, c2, wd_unique a3 c3]
  · exact absurd a3.1 (c2 d)
  · exact absurd c3.1 (a2 i)
  · rw [a1, c1]
end WY
end
section
/-! The class's and the reference's loops over lengths of ways, held against the ways themselves. -/
theorem fg_og_t {β : Type} {c : Bool} {x : Option β} (h : c = true) : fg_og c x = x := by rw [h]; rfl
theorem fg_ob_s {α β : Type} {x : Option α} {k : α → Option β} {a : α} (h : x = some a) : fg_ob x k = k a := by rw [h]; rfl
def cl (A : fg_A) (r : Nat) : Nat := (A r).toNatClampNeg
def onb (O : fg_A) (r : Nat) : Bool := !decide (O r = 0)
/-- the rules as both hold them -/
def wfm (B E C O : fg_A) (n : Int32) (N : Nat) : Prop :=
  N ≤ 90 ∧ n = nI N ∧ ∀ r, r < N → (B r = nI (cl B r) ∧ cl B r < 28) ∧ (E r = nI (cl E r) ∧ cl E r < 28) ∧ cl B r ≠ cl E r ∧ (C r = nI (cl C r) ∧ 1 ≤ cl C r ∧ cl C r ≤ 9) ∧ (O r = 0 ∨ O r = 1)
theorem onb_t {O : fg_A} {r : Nat} (h : ¬ O r = 0) : onb O r = true := by unfold onb; rw [decide_eq_false h]; rfl
theorem onb_f {O : fg_A} {r : Nat} (h : O r = 0) : onb O r = false := by unfold onb; rw [decide_eq_true h]; rfl
theorem onb_ne {O : fg_A} {r : Nat} (h : onb O r = true) : ¬ O r = 0 := fun q => by rw [onb_f q] at h; cases h
theorem wfm.e28 {B E C O : fg_A} {n : Int32} {N : Nat} (h : wfm B E C O n N) : ∀ r, r < N → cl E r < 28 := fun r hr => (h.2.2 r hr).2.1.2
theorem wfm.b28 {B E C O : fg_A} {n : Int32} {N : Nat} (h : wfm B E C O n N) : ∀ r, r < N → cl B r < 28 := fun r hr => (h.2.2 r hr).1.2
/-- filling a row of 28 -/
theorem pf_fill {h : Nat → Int32 → fg_A → Option fg_A} {z : Int32} (h0 : ∀ k x F, h (k + 1) x F = if 28 ≤ x then some F else fg_og (ix x 28) (h k (x + 1) (upd F x.toNatClampNeg z))) :
    ∀ (k i : Nat) (F : fg_A), i ≤ 28 → 28 < i + k → (∀ x, x < i → F x = z) → ∃ K, h k (nI i) F = some K ∧ ∀ x, x < 28 → K x = z := by
  intro k
  induction k with
  | zero => intro i F hi hk; omega
  | succ k ih =>
    intro i F hi hk hF
    rw [h0]
    rcases Nat.lt_or_ge i 28 with q | q
    · rw [if_neg (show ¬ (28 : Int32) ≤ nI i from nI_ge q (by decide)), fg_og_t (ix_nI q (by decide)), nI_1, nI_clamp (by omega)]
      exact ih (i + 1) _ (by omega) (by omega) (fun x hx => by
        by_cases w : x = i
        · rw [w]; exact pk_us
        · rw [pk_un w]; exact hF x (by omega))
    · rw [if_pos (show (28 : Int32) ≤ nI i from nI_le q (by omega))]
      exact ⟨F, rfl, fun x hx => hF x (by omega)⟩
/-- the state of the search while length m + 1 is looked for -/
def ws_g (m : Nat) (g : Int32) (F : fg_A) : Prop := (g = 0 ∧ ∀ x, x < 28 → F x ≠ nI (m + 1)) ∨ (g = 1 ∧ ∃ x, x < 28 ∧ F x = nI (m + 1))
theorem ws_g_hit {m y : Nat} {F : fg_A} (hy : y < 28) : ws_g m 1 (upd F y (nI (m + 1))) := Or.inr ⟨rfl, y, hy, pk_us⟩
theorem pf_mwo {B E C O : fg_A} {n : Int32} {N t m : Nat} (Hw : wfm B E C O n N) (hm : m < 28) :
    ∀ (k i : Nat) (F : fg_A) (g : Int32), i ≤ N → N < i + k → wf_in N (cl B) (cl E) (onb O) t m i F → ws_g m g F →
      ∃ g' F', f_G_measureWaysOf_4 B E O n (nI (m + 1)) k g (nI i) F = some (g', F') ∧ wf_in N (cl B) (cl E) (onb O) t m N F' ∧ ws_g m g' F' ∧ ∀ x, x < 28 → F x ≠ -1 → F' x ≠ -1 := by
  obtain ⟨hN, hn, hr⟩ := id Hw
  intro k
  induction k with
  | zero => intro i F g hi hk; omega
  | succ k ih =>
    intro i F g hi hk hin hg
    rw [f_G_measureWaysOf_4]
    rcases Nat.lt_or_ge i N with q | q
    · obtain ⟨⟨hB, hB8⟩, ⟨hE, hE8⟩, hne, -, -⟩ := hr i q
      have h90 : ix (nI i) 90 = true := ix_nI (by omega) (by decide)
      have hci : (nI i).toNatClampNeg = i := nI_clamp (by omega)
      have hcB : (B i).toNatClampNeg = cl B i := rfl
      have hcE : (E i).toNatClampNeg = cl E i := rfl
      have hxB : ix (B i) 28 = true := by rw [hB]; exact ix_nI hB8 (by decide)
      have hxE : ix (E i) 28 = true := by rw [hE]; exact ix_nI hE8 (by decide)
      rw [if_neg (show ¬ n ≤ nI i by rw [hn]; exact nI_ge q (by omega)), fg_og_t h90, fg_og_t h90, hci, nI_1, nI_pred]
      by_cases hO : O i = 0
      · rw [if_pos hO]
        exact ih (i + 1) F g (by omega) (by omega) (wf_skip hm Hw.e28 hin (fun _ ho => absurd hO (onb_ne ho))) hg
      · rw [if_neg hO, fg_og_t hxB, hcB]
        by_cases hF : F (cl B i) = -1
        · rw [if_pos hF, fg_og_t h90, fg_og_t hxE, hcE]
          by_cases hK : F (cl E i) = nI m
          · rw [if_pos hK, fg_og_t hxB]
            obtain ⟨g', F', h1, h2, h3, h4⟩ := ih (i + 1) (upd F (cl B i) (nI (m + 1))) 1 (by omega) (by omega) (wf_hit hm q (onb_t hO) Hw.e28 hin hF hK) (ws_g_hit hB8)
            refine ⟨g', F', h1, h2, h3, fun x hx hx1 => h4 x hx ?_⟩
            by_cases w : x = cl B i
            · rw [w, pk_us]; exact nI_m1 (by omega)
            · rw [pk_un w]; exact hx1
          · rw [if_neg hK]
            exact ih (i + 1) F g (by omega) (by omega) (wf_skip hm Hw.e28 hin (fun _ _ _ => hK)) hg
        · rw [if_neg hF]
          exact ih (i + 1) F g (by omega) (by omega) (wf_skip hm Hw.e28 hin (fun _ _ h => absurd h hF)) hg
    · have e1 : i = N := by omega
      subst e1
      rw [if_pos (show n ≤ nI i by rw [hn]; exact nI_le (Nat.le_refl i) (by omega))]
      exact ⟨g, F, rfl, hin, hg, fun _ _ h => h⟩
/-- which nodes have a length -/
def asg (F : fg_A) (x : Nat) : Bool := !decide (F x = -1)
theorem asg_t {F : fg_A} {x : Nat} : asg F x = true ↔ F x ≠ -1 := by unfold asg; simp
/-- a round that found a node has one more -/
theorem ws_more {N t m : Nat} {b e : Nat → Nat} {ok : Nat → Bool} {F K : fg_A} (hm : m < 28) (h : wf_to N b e ok t m F) (hK : ∀ x, x < 28 → F x ≠ -1 → K x ≠ -1) (hx : ∃ x, x < 28 ∧ K x = nI (m + 1)) (hK2 : wf_to N b e ok t (m + 1) K) : ct (asg F) 28 < ct (asg K) 28 := by
  obtain ⟨x, hx, hx2⟩ := hx
  refine ct_lt (fun i hi hp => asg_t.mpr (hK i hi (asg_t.mp hp))) hx ?_ (asg_t.mpr (by rw [hx2]; exact nI_m1 (by omega)))
  cases hq : asg F x with
  | false => rfl
  | true =>
    exfalso
    have h1 := asg_t.mp hq
    rcases h x hx with ⟨d, a1, a2, a3⟩ | ⟨a1, -⟩
    · rcases hK2 x hx with ⟨d2, c1, c2, c3⟩ | ⟨c1, -⟩
      · have e1 : d2 = m + 1 := (nI_eq (by omega) (by omega)).mp (c2.symm.trans hx2)
        have e2 := wd_unique a3 c3
        omega
      · rw [c1] at hx2; exact absurd hx2.symm (nI_m1 (by omega))
    · exact h1 a1
theorem pf_mwt {B E C O : fg_A} {n : Int32} {N t : Nat} (Hw : wfm B E C O n N) :
    ∀ (k m : Nat) (F : fg_A) (g : Int32), m < 28 → 28 < m + k → wf_to N (cl B) (cl E) (onb O) t m F → (g = 0 ∧ wf_all N (cl B) (cl E) (onb O) t F ∨ g = 1 ∧ m + 1 ≤ ct (asg F) 28) →
      ∃ F', f_G_measureWaysTo_32 B E O n k g (nI (m + 1)) F = some F' ∧ wf_all N (cl B) (cl E) (onb O) t F' := by
  intro k
  induction k with
  | zero => intro m F g hm hk; omega
  | succ k ih =>
    intro m F g hm hk hto hg
    rw [f_G_measureWaysTo_32]
    rcases hg with ⟨rfl, hall⟩ | ⟨rfl, hct⟩
    · by_cases q : (28 : Int32) ≤ nI (m + 1)
      · rw [if_pos q]; exact ⟨F, rfl, hall⟩
      · rw [if_neg q, if_pos rfl]; exact ⟨F, rfl, hall⟩
    · rcases Nat.lt_or_ge (m + 1) 28 with q | q
      · rw [if_neg (show ¬ (28 : Int32) ≤ nI (m + 1) from nI_ge q (by decide)), if_neg (show ¬ (1 : Int32) = 0 by decide)]
        obtain ⟨g', F', h1, h2, h3, h4⟩ := pf_mwo (t := t) Hw hm fu 0 F 0 (Nat.zero_le N) (by show N < 0 + 1000; have := Hw.1; omega) (wf_begin hto) (by
          refine Or.inl ⟨rfl, fun x hx hx2 => ?_⟩
          rcases hto x hx with ⟨d, a1, a2, -⟩ | ⟨a1, -⟩
          · have e1 : d = m + 1 := (nI_eq (by omega) (by omega)).mp (a2.symm.trans hx2)
            omega
          · rw [a1] at hx2; exact absurd hx2.symm (nI_m1 (by omega)))
        have hto2 := wf_end h2
        have hm1 : f_G_measureWaysOf B E O n F (nI (m + 1)) = some (g', F') := by
          unfold f_G_measureWaysOf
          rw [fg_ob_s (show f_G_measureWaysOf_4 B E O n (nI (m + 1)) fu 0 0 F = some (g', F') from h1)]
          exact fg_og_t (by rcases h3 with ⟨rfl, -⟩ | ⟨rfl, -⟩ <;> rfl)
        rw [fg_ob_s hm1, nI_1]
        refine ih (m + 1) F' g' q (by omega) hto2 ?_
        rcases h3 with ⟨rfl, h3⟩ | ⟨rfl, h3⟩
        · exact Or.inl ⟨rfl, wf_stop hm Hw.e28 hto2 h3⟩
        · exact Or.inr ⟨rfl, by have := ws_more hm hto h4 h3 hto2; omega⟩
      · rw [if_pos (show (28 : Int32) ≤ nI (m + 1) from nI_le q (by omega))]
        exact ⟨F, rfl, wf_full (by omega) hto (fun x hx => asg_t.mp (ct_full (by omega) hx))⟩
theorem ws_start {N t : Nat} {b e : Nat → Nat} {ok : Nat → Bool} {F : fg_A} (ht : t < 28) (hF : ∀ x, x < 28 → F x = -1) : wf_to N b e ok t 0 (upd F t 0) ∧ 0 + 1 ≤ ct (asg (upd F t 0)) 28 := by
  refine ⟨fun x hx => ?_, ?_⟩
  · by_cases q : x = t
    · subst q
      exact Or.inl ⟨0, Nat.le_refl 0, by rw [pk_us]; rfl, rfl, fun i hi => absurd hi (Nat.not_lt_zero i)⟩
    · refine Or.inr ⟨by rw [pk_un q]; exact hF x hx, fun d hd hw => ?_⟩
      have e1 : d = 0 := by omega
      subst e1; exact q hw
  · have h1 := ct_lt (p := fun _ => false) (q := asg (upd F t 0)) (fun _ _ h => (by cases h)) ht rfl (asg_t.mpr (by rw [pk_us]; decide))
    omega
/-- the class's lengths -/
theorem pf_mw {B E C O : fg_A} {n : Int32} {N t : Nat} (Hw : wfm B E C O n N) (ht : t < 28) (F : fg_A) : ∃ F', f_G_measureWaysTo B E O n F (nI t) = some F' ∧ wf_all N (cl B) (cl E) (onb O) t F' := by
  obtain ⟨K, h1, h2⟩ := pf_fill (h := f_G_measureWaysTo_2 (nI t)) (z := -1) (fun _ _ _ => rfl) fu 0 F (by omega) (by decide) (fun x hx => absurd hx (Nat.not_lt_zero x))
  obtain ⟨h3, h4⟩ := ws_start (N := N) (b := cl B) (e := cl E) (ok := onb O) ht h2
  obtain ⟨F', h5, h6⟩ := pf_mwt (t := t) Hw fu 0 (upd K t 0) 1 (by omega) (by decide) h3 (Or.inr ⟨rfl, h4⟩)
  refine ⟨F', ?_, h6⟩
  unfold f_G_measureWaysTo
  rw [fg_ob_s (show f_G_measureWaysTo_2 (nI t) fu 0 F = some K from h1), fg_og_t (ix_nI ht (by decide)), nI_clamp (by omega), fg_ob_s (show f_G_measureWaysTo_32 B E O n fu 1 1 (upd K t 0) = some F' from h5)]
end
section
/-- the rules that the reference uses when it goes without a node -/
def okm (B E O : fg_A) (w : Int32) (r : Nat) : Bool := onb O r && !decide (B r = w) && !decide (E r = w)
theorem okm_t {B E O : fg_A} {w : Int32} {r : Nat} : okm B E O w r = true ↔ (¬ O r = 0 ∧ ¬ B r = w ∧ ¬ E r = w) := by
  unfold okm onb
  simp [Bool.and_eq_true, and_assoc]
theorem pf_mm42 {B E C O : fg_A} {n w : Int32} {N t m : Nat} (Hw : wfm B E C O n N) (hm : m < 28) :
    ∀ (k i : Nat) (F : fg_A) (g : Int32), i ≤ N → N < i + k → wf_in N (cl B) (cl E) (okm B E O w) t m i F → ws_g m g F →
      ∃ g' F', f_M_measure_42 n B E O w (nI m) k g (nI i) F = some (g', F') ∧ wf_in N (cl B) (cl E) (okm B E O w) t m N F' ∧ ws_g m g' F' ∧ ∀ x, x < 28 → F x ≠ -1 → F' x ≠ -1 := by
  obtain ⟨hN, hn, hr⟩ := id Hw
  intro k
  induction k with
  | zero => intro i F g hi hk; omega
  | succ k ih =>
    intro i F g hi hk hin hg
    rw [f_M_measure_42]
    rcases Nat.lt_or_ge i N with q | q
    · obtain ⟨⟨hB, hB8⟩, ⟨hE, hE8⟩, hne, -, -⟩ := hr i q
      have h90 : ix (nI i) 90 = true := ix_nI (by omega) (by decide)
      have hci : (nI i).toNatClampNeg = i := nI_clamp (by omega)
      have hcB : (B i).toNatClampNeg = cl B i := rfl
      have hcE : (E i).toNatClampNeg = cl E i := rfl
      have hxB : ix (B i) 28 = true := by rw [hB]; exact ix_nI hB8 (by decide)
      have hxE : ix (E i) 28 = true := by rw [hE]; exact ix_nI hE8 (by decide)
      have go : (i < N → okm B E O w i = true → F (cl B i) = -1 → F (cl E i) ≠ nI m) → ∃ g' F', f_M_measure_42 n B E O w (nI m) k g (nI (i + 1)) F = some (g', F') ∧ wf_in N (cl B) (cl E) (okm B E O w) t m N F' ∧ ws_g m g' F' ∧ ∀ x, x < 28 → F x ≠ -1 → F' x ≠ -1 :=
        fun h => ih (i + 1) F g (by omega) (by omega) (wf_skip hm Hw.e28 hin h) hg
      rw [if_neg (show ¬ n ≤ nI i by rw [hn]; exact nI_ge q (by omega)), fg_og_t h90, hci, nI_1, nI_1]
      by_cases hO : O i = 0
      · rw [if_pos hO]
        exact go (fun _ ho => absurd hO (okm_t.mp ho).1)
      · rw [if_neg hO, fg_og_t h90, fg_og_t hxE, hcE]
        by_cases hK : F (cl E i) = nI m
        · rw [if_pos hK, fg_og_t h90, fg_og_t hxB, hcB]
          by_cases hF : 0 ≤ F (cl B i)
          · rw [if_pos hF]
            exact go (fun _ _ h => by rw [h] at hF; exact absurd hF (by decide))
          · rw [if_neg hF, fg_og_t h90]
            by_cases hw1 : B i = w
            · rw [if_pos hw1]
              exact go (fun _ ho => absurd hw1 (okm_t.mp ho).2.1)
            · rw [if_neg hw1, fg_og_t h90]
              by_cases hw2 : E i = w
              · rw [if_pos hw2]
                exact go (fun _ ho => absurd hw2 (okm_t.mp ho).2.2)
              · rw [if_neg hw2, fg_og_t h90, fg_og_t hxB]
                have hF1 : F (cl B i) = -1 := by
                  rcases hin (cl B i) hB8 with ⟨d, a1, a2, -⟩ | ⟨a1, -⟩
                  · rw [a2] at hF; exact absurd (nI_pos' (by omega)) hF
                  · exact a1
                obtain ⟨g', F', h1, h2, h3, h4⟩ := ih (i + 1) (upd F (cl B i) (nI (m + 1))) 1 (by omega) (by omega) (wf_hit hm q (okm_t.mpr ⟨hO, hw1, hw2⟩) Hw.e28 hin hF1 hK) (ws_g_hit hB8)
                refine ⟨g', F', h1, h2, h3, fun x hx hx1 => h4 x hx ?_⟩
                by_cases w : x = cl B i
                · rw [w, pk_us]; exact nI_m1 (by omega)
                · rw [pk_un w]; exact hx1
        · rw [if_neg hK]
          exact go (fun _ _ _ => hK)
    · have e1 : i = N := by omega
      subst e1
      rw [if_pos (show n ≤ nI i by rw [hn]; exact nI_le (Nat.le_refl i) (by omega))]
      exact ⟨g, F, rfl, hin, hg, fun _ _ h => h⟩
theorem pf_mm33 {B E C O : fg_A} {n w : Int32} {N t : Nat} (Hw : wfm B E C O n N) :
    ∀ (k m : Nat) (F : fg_A) (g : Int32), 28 < m + k → (g = 0 ∧ wf_all N (cl B) (cl E) (okm B E O w) t F ∨ g = 1 ∧ m + 1 ≤ ct (asg F) 28 ∧ wf_to N (cl B) (cl E) (okm B E O w) t m F) → (g = 0 → 0 < k) →
      ∃ F', f_M_measure_33 n B E O w k g (nI m) F = some F' ∧ wf_all N (cl B) (cl E) (okm B E O w) t F' := by
  intro k
  induction k with
  | zero =>
    intro m F g hk hg h0
    rcases hg with ⟨rfl, -⟩ | ⟨rfl, h1, -⟩
    · exact absurd (h0 rfl) (Nat.lt_irrefl 0)
    · have := ct_le (p := asg F) 28; omega
  | succ k ih =>
    intro m F g hk hg _
    rw [f_M_measure_33]
    rcases hg with ⟨rfl, hall⟩ | ⟨rfl, hct, hto⟩
    · rw [if_pos rfl]; exact ⟨F, rfl, hall⟩
    · have hm : m < 28 := by have := ct_le (p := asg F) 28; omega
      rw [if_neg (show ¬ (1 : Int32) = 0 by decide)]
      obtain ⟨g', F', h1, h2, h3, h4⟩ := pf_mm42 (t := t) (w := w) Hw hm fu 0 F 0 (Nat.zero_le N) (by show N < 0 + 1000; have := Hw.1; omega) (wf_begin hto) (by
        refine Or.inl ⟨rfl, fun x hx hx2 => ?_⟩
        rcases hto x hx with ⟨d, a1, a2, -⟩ | ⟨a1, -⟩
        · have e1 : d = m + 1 := (nI_eq (by omega) (by omega)).mp (a2.symm.trans hx2)
          omega
        · rw [a1] at hx2; exact absurd hx2.symm (nI_m1 (by omega)))
      have hto2 := wf_end h2
      rw [fg_ob_s (show f_M_measure_42 n B E O w (nI m) fu 0 0 F = some (g', F') from h1), nI_1]
      refine ih (m + 1) F' g' (by omega) ?_ ?_
      · rcases h3 with ⟨rfl, h3⟩ | ⟨rfl, h3⟩
        · exact Or.inl ⟨rfl, wf_stop hm Hw.e28 hto2 h3⟩
        · exact Or.inr ⟨rfl, by have := ws_more hm hto h4 h3 hto2; omega, hto2⟩
      · intro _; omega
/-- the reference's lengths, without the node w -/
theorem pf_mm {B E C O : fg_A} {n : Int32} {N t : Nat} (Hw : wfm B E C O n N) (ht : t < 28) (F : fg_A) (w : Int32) : ∃ F', f_M_measure n B E O F (nI t) w = some F' ∧ wf_all N (cl B) (cl E) (okm B E O w) t F' := by
  obtain ⟨K, h1, h2⟩ := pf_fill (h := f_M_measure_2 (nI t) w) (z := -1) (fun _ _ _ => rfl) fu 0 F (by omega) (by decide) (fun x hx => absurd hx (Nat.not_lt_zero x))
  obtain ⟨h3, h4⟩ := ws_start (N := N) (b := cl B) (e := cl E) (ok := okm B E O w) ht h2
  obtain ⟨F', h5, h6⟩ := pf_mm33 (t := t) (w := w) Hw fu 0 (upd K t 0) 1 (by decide) (Or.inr ⟨rfl, h4, h3⟩) (fun _ => by decide)
  refine ⟨F', ?_, h6⟩
  unfold f_M_measure
  rw [fg_ob_s (show f_M_measure_2 (nI t) w fu 0 F = some K from h1), fg_og_t (ix_nI ht (by decide)), nI_clamp (by omega), fg_ob_s (show f_M_measure_33 n B E O w fu 1 0 (upd K t 0) = some F' from h5)]
theorem wf_all_congr {N t : Nat} {b e : Nat → Nat} {ok ok2 : Nat → Bool} {F : fg_A} (h : ∀ r, r < N → ok r = ok2 r) (hF : wf_all N b e ok t F) : wf_all N b e ok2 t F := by
  have a1 : ∀ d x, wk N b e ok d x t → wk N b e ok2 d x t := fun d x => wk_congr fun r hr q => by rw [← h r hr]; exact q
  have a2 : ∀ d x, wk N b e ok2 d x t → wk N b e ok d x t := fun d x => wk_congr fun r hr q => by rw [h r hr]; exact q
  intro x hx
  rcases hF x hx with ⟨d, c1, c2, c3, c4⟩ | ⟨c1, c2⟩
  · exact Or.inl ⟨d, c1, c2, a1 d x c3, fun i hi q => c4 i hi (a2 i x q)⟩
  · exact Or.inr ⟨c1, fun d q => c2 d (a2 d x q)⟩
theorem okm_m1 {B E C O : fg_A} {n : Int32} {N : Nat} (Hw : wfm B E C O n N) : ∀ r, r < N → okm B E O (-1) r = onb O r := by
  intro r hr
  obtain ⟨⟨hB, hB8⟩, ⟨hE, hE8⟩, -⟩ := Hw.2.2 r hr
  unfold okm
  rw [hB, hE, decide_eq_false (nI_m1 (by omega)), decide_eq_false (nI_m1 (by omega))]
  simp
/-- a number of a node -/
theorem nd_of {x : Int32} (h0 : ¬ x < 0) (h : x < 28) : ∃ v, v < 28 ∧ x = nI v := by
  obtain ⟨j, hj, rfl⟩ := nI_of h0
  exact ⟨j, (nI_ltI hj (by decide)).mp (show nI j < nI 28 from h), rfl⟩
theorem pf_need1 {v : Nat} (h : v < 28) : f_G_needNode (nI v) = some () := by
  unfold f_G_needNode
  rw [if_neg (nI_pos (by omega)), if_pos (show nI v < 28 from nI_lt (b := 28) h (by decide))]
theorem pf_need {v w : Nat} (h : v < 28) (h2 : w < 28) : f_G_needNodes (nI v) (nI w) = some () := by
  unfold f_G_needNodes
  rw [fg_ob_s (pf_need1 h), fg_ob_s (pf_need1 h2)]
theorem pf_needU {v w : Nat} (h : v < 28) (h2 : w < 28) (hne : v ≠ w) : f_G_needUnlikeNodes (nI v) (nI w) = some () := by
  unfold f_G_needUnlikeNodes
  rw [fg_ob_s (pf_need h h2), if_neg (fun q => hne ((nI_eq (by omega) (by omega)).mp q))]
theorem pf_isNode {v : Nat} (h : v < 28) : f_M_isNode (nI v) = some 1 := by
  have h1 : f_M_in (nI v) 0 27 = some 1 := by
    unfold f_M_in
    rw [if_neg (nI_pos (by omega)), if_neg (show ¬ (27 : Int32) < nI v from nI_nlt (a := 27) (by omega) (by decide))]
  unfold f_M_isNode
  rw [fg_ob_s h1]; rfl
/-- promise 5: both lengths are alike -/
theorem pf_length {B E C O : fg_A} {n : Int32} {N a b : Nat} (Hw : wfm B E C O n N) (ha : a < 28) (hb : b < 28) (F K : fg_A) (t : Int32) :
    ∃ (F' K' : fg_A) (r : Int32), f_G_length B E O n F (nI a) (nI b) = some (r, F') ∧ f_M_length t n B E O K (nI a) (nI b) = some (r, 0, K') := by
  obtain ⟨F', h1, h2⟩ := pf_mw Hw hb F
  obtain ⟨K', h3, h4⟩ := pf_mm Hw hb K (-1)
  refine ⟨F', K', F' a, ?_, ?_⟩
  · unfold f_G_length
    rw [fg_ob_s (pf_need ha hb), fg_ob_s h1, fg_og_t (ix_nI ha (by decide)), nI_clamp (by omega)]
  · have e1 : f_M_refuse t 0 0 = some (0, 0) := rfl
    unfold f_M_length
    rw [fg_ob_s (pf_isNode ha), if_neg (by decide), fg_ob_s (pf_isNode hb), if_neg (by decide), fg_ob_s e1, if_pos rfl, fg_ob_s h3, fg_og_t (ix_nI ha (by decide)), nI_clamp (by omega), wf_same h2 (wf_all_congr (okm_m1 Hw) h4) ha]
end
section
/-! Steps of the least way. -/
/-- rule r leads from a to a node one nearer -/
def lp_P (B E O F : fg_A) (a r : Nat) : Prop := ¬ O r = 0 ∧ cl B r = a ∧ F (cl E r) = F a - 1
def lp_min (B E O F : fg_A) (N a r : Nat) : Prop := r < N ∧ lp_P B E O F a r ∧ ∀ q, q < r → ¬ lp_P B E O F a q
theorem pf_lro {B E C O : fg_A} {n : Int32} {N a : Nat} (Hw : wfm B E C O n N) (ha : a < 28) {F : fg_A} {r : Nat} (hr : lp_min B E O F N a r) :
    ∀ (k i : Nat), i ≤ r → N < i + k → f_G_leastRuleOnward_2 B E O n F (nI a) k (nI i) = some (nI r) := by
  obtain ⟨hN, hn, hw⟩ := id Hw
  obtain ⟨h1, h2, h3⟩ := hr
  intro k
  induction k with
  | zero => intro i hi hk; omega
  | succ k ih =>
    intro i hi hk
    have q : i < N := by omega
    obtain ⟨⟨hB, hB8⟩, ⟨hE, hE8⟩, -⟩ := hw i q
    have h90 : ix (nI i) 90 = true := ix_nI (by omega) (by decide)
    have hci : (nI i).toNatClampNeg = i := nI_clamp (by omega)
    have hcE : (E i).toNatClampNeg = cl E i := rfl
    have hxE : ix (E i) 28 = true := by rw [hE]; exact ix_nI hE8 (by decide)
    have hca : (nI a).toNatClampNeg = a := nI_clamp (by omega)
    rw [f_G_leastRuleOnward_2, if_neg (show ¬ n ≤ nI i by rw [hn]; exact nI_ge q (by omega)), fg_og_t h90, hci, nI_1]
    have go : ¬ lp_P B E O F a i → f_G_leastRuleOnward_2 B E O n F (nI a) k (nI (i + 1)) = some (nI r) := fun hp => by
      have hne : i ≠ r := fun x => hp (by rw [x]; exact h2)
      exact ih (i + 1) (by omega) (by omega)
    by_cases hO : O i = 0
    · rw [if_pos hO]; exact go (fun p => p.1 hO)
    · rw [if_neg hO, fg_og_t h90]
      by_cases hBa : B i = nI a
      · have hBa2 : cl B i = a := (nI_eq (by omega) (by omega)).mp (hB.symm.trans hBa)
        rw [if_pos hBa, fg_og_t h90, fg_og_t hxE, fg_og_t (ix_nI ha (by decide)), hcE, hca]
        by_cases hF : F (cl E i) = F a - 1
        · rw [if_pos hF]
          have e1 : i = r := by
            rcases Nat.lt_or_ge i r with w | w
            · exact absurd ⟨hO, hBa2, hF⟩ (h3 i w)
            · omega
          rw [e1]
        · rw [if_neg hF]; exact go (fun p => hF p.2.2)
      · rw [if_neg hBa]; exact go (fun p => hBa (by rw [hB, p.2.1]))
/-- the number below j: -1 below 0 -/
def pmI (j : Nat) : Int32 := match j with
  | 0 => -1
  | j + 1 => nI j
theorem pmI_dec (j : Nat) : pmI (j + 1) + (-1) = pmI j := by
  cases j with
  | zero => decide
  | succ j => exact pk_m1 j
theorem pmI_sub (j : Nat) : nI j - 1 = pmI j := by
  cases j with
  | zero => decide
  | succ j => exact nI_pred j
theorem pf_ls112 {B E C O : fg_A} {n : Int32} {N a : Nat} (Hw : wfm B E C O n N) (ha : a < 28) {F : fg_A} {r : Nat} (hr : lp_min B E O F N a r) (x3 x7 : Int32) :
    ∀ (k j : Nat) (y : Int32), j ≤ N → j < k → (j ≤ r → y = nI r) → f_M_step_112 B E O F x3 (nI a) x7 k y (pmI j) = some (nI r) := by
  obtain ⟨hN, hn, hw⟩ := id Hw
  obtain ⟨h1, h2, h3⟩ := hr
  intro k
  induction k with
  | zero => intro j y hj hk; omega
  | succ k ih =>
    intro j y hj hk hy
    rw [f_M_step_112]
    cases j with
    | zero =>
      rw [if_pos (show pmI 0 < 0 by decide), hy (Nat.zero_le r)]
    | succ i =>
      have q : i < N := by omega
      obtain ⟨⟨hB, hB8⟩, ⟨hE, hE8⟩, -⟩ := hw i q
      have h90 : ix (nI i) 90 = true := ix_nI (by omega) (by decide)
      have hci : (nI i).toNatClampNeg = i := nI_clamp (by omega)
      have hcE : (E i).toNatClampNeg = cl E i := rfl
      have hxE : ix (E i) 28 = true := by rw [hE]; exact ix_nI hE8 (by decide)
      have hca : (nI a).toNatClampNeg = a := nI_clamp (by omega)
      rw [pmI_dec]
      show (if nI i < 0 then _ else _) = _
      rw [if_neg (nI_pos (by omega))]
      show fg_og (ix (nI i) 90) _ = _
      rw [fg_og_t h90]
      show (if O (nI i).toNatClampNeg = 0 then _ else fg_og (ix (nI i) 90) (if B (nI i).toNatClampNeg = nI a then fg_og (ix (nI i) 90) (fg_og (ix (E (nI i).toNatClampNeg) 28) (fg_og (ix (nI a) 28) (if F (E (nI i).toNatClampNeg).toNatClampNeg = F (nI a).toNatClampNeg - 1 then f_M_step_112 B E O F x3 (nI a) x7 k (nI i) (pmI i) else f_M_step_112 B E O F x3 (nI a) x7 k y (pmI i)))) else f_M_step_112 B E O F x3 (nI a) x7 k y (pmI i))) = _
      rw [hci]
      have go : ¬ lp_P B E O F a i → f_M_step_112 B E O F x3 (nI a) x7 k y (pmI i) = some (nI r) := fun hp => by
        have hne : i ≠ r := fun x => hp (by rw [x]; exact h2)
        exact ih i y (by omega) (by omega) (fun w => hy (by omega))
      by_cases hO : O i = 0
      · rw [if_pos hO]; exact go (fun p => p.1 hO)
      · rw [if_neg hO, fg_og_t h90]
        by_cases hBa : B i = nI a
        · have hBa2 : cl B i = a := (nI_eq (by omega) (by omega)).mp (hB.symm.trans hBa)
          rw [if_pos hBa, fg_og_t h90, fg_og_t hxE, fg_og_t (ix_nI ha (by decide)), hcE, hca]
          by_cases hF : F (cl E i) = F a - 1
          · rw [if_pos hF]
            refine ih i (nI i) (by omega) (by omega) (fun w => ?_)
            have e1 : i = r := by
              rcases Nat.lt_or_ge i r with z | z
              · exact absurd ⟨hO, hBa2, hF⟩ (h3 i z)
              · omega
            rw [e1]
          · rw [if_neg hF]; exact go (fun p => hF p.2.2)
        · rw [if_neg hBa]; exact go (fun p => hBa (by rw [hB, p.2.1]))
/-- a way goes on from a node that has one -/
theorem lp_ex {B E C O : fg_A} {n : Int32} {N t a d : Nat} (Hw : wfm B E C O n N) (ha : a < 28) (hd : d < 28) {F : fg_A} (hF : wf_all N (cl B) (cl E) (onb O) t F) (hFa : F a = nI (d + 1)) :
    ∃ r, lp_min B E O F N a r ∧ F (cl E r) = nI d := by
  have h1 : ∃ r, r < N ∧ lp_P B E O F a r := by
    rcases hF a ha with ⟨d2, a1, a2, a3⟩ | ⟨a1, -⟩
    · have e1 : d2 = d + 1 := (nI_eq (by omega) (by omega)).mp (a2.symm.trans hFa)
      subst e1
      obtain ⟨r, b1, b2, b3, b4⟩ := wd_next a3
      refine ⟨r, b1, onb_ne b2, b3, ?_⟩
      rcases hF (cl E r) (Hw.e28 r b1) with ⟨d3, c1, c2, c3⟩ | ⟨-, c2⟩
      · rw [c2, wd_unique c3 b4, hFa, nI_pred]
      · exact absurd b4.1 (c2 d)
    · rw [a1] at hFa; exact absurd hFa.symm (nI_m1 (by omega))
  obtain ⟨r, ⟨h2, h3⟩, h4⟩ := pk_least (fun r => r < N ∧ lp_P B E O F a r) h1
  refine ⟨r, ⟨h2, h3, fun q hq hp => h4 q hq ⟨by omega, hp⟩⟩, ?_⟩
  rw [h3.2.2, hFa, nI_pred]
/-- both walk the least way alike -/
theorem pf_walk {B E C O : fg_A} {n : Int32} {N t k0 : Nat} (Hw : wfm B E C O n N) (hk0 : k0 < 1000) {F K : fg_A} (hF : wf_all N (cl B) (cl E) (onb O) t F) (hK : wf_all N (cl B) (cl E) (onb O) t K) :
    ∀ (k i a d : Nat) (y : Int32), a < 28 → F a = nI d → d ≤ 28 → i ≤ k0 + 1 → k0 + 1 ≤ i + d → k0 + 1 < i + k →
      ∃ r, f_G_ruleOfLeastWay_8 B E O n F (nI k0) k (nI a) y (nI i) = some r ∧ f_M_step_95 n B E O K (nI k0) k (nI a) y (nI i) = some r := by
  intro k
  induction k with
  | zero => intro i a d y ha hFa hd hi hid hk; omega
  | succ k ih =>
    intro i a d y ha hFa hd hi hid hk
    rw [f_G_ruleOfLeastWay_8, f_M_step_95]
    rcases Nat.lt_or_ge k0 i with q | q
    · rw [if_pos (nI_lt q (by omega)), if_pos (nI_lt q (by omega))]
      exact ⟨y, rfl, rfl⟩
    · rw [if_neg (nI_nlt q (by omega)), if_neg (nI_nlt q (by omega))]
      obtain ⟨d, rfl⟩ : ∃ j, d = j + 1 := ⟨d - 1, by omega⟩
      obtain ⟨r, hr, hr2⟩ := lp_ex Hw ha (by omega) hF hFa
      have hrN : r < N := hr.1
      have hKr : lp_min B E O K N a r := by
        obtain ⟨c1, c2, c3⟩ := hr
        have sw : ∀ z, z < N → (lp_P B E O K a z ↔ lp_P B E O F a z) := fun z hz => by
          unfold lp_P
          rw [wf_same hK hF (Hw.e28 z hz), wf_same hK hF ha]
        exact ⟨c1, (sw r c1).mpr c2, fun z hz hp => c3 z hz ((sw z (by omega)).mp hp)⟩
      have g1 : f_G_leastRuleOnward B E O n F (nI a) = some (nI r) := pf_lro Hw ha hr fu 0 (Nat.zero_le r) (by show N < 0 + 1000; have := Hw.1; omega)
      have g2 : f_M_step_112 B E O K (nI k0) (nI a) (nI i) fu (-1) (n - 1) = some (nI r) := by
        rw [Hw.2.1, pmI_sub]
        exact pf_ls112 Hw ha hKr (nI k0) (nI i) fu N (-1) (Nat.le_refl N) (by show N < 1000; have := Hw.1; omega) (fun w => by omega)
      obtain ⟨-, ⟨hE, hE8⟩, -⟩ := Hw.2.2 r hrN
      have h90 : ix (nI r) 90 = true := ix_nI (by have := Hw.1; omega) (by decide)
      have hcr : (nI r).toNatClampNeg = r := nI_clamp (by have := Hw.1; omega)
      rw [fg_ob_s g1, fg_ob_s g2, if_neg (nI_m1 (by have := Hw.1; omega)), fg_og_t h90, fg_og_t h90, hcr, hE, nI_1]
      exact ih (i + 1) (cl E r) d (nI r) hE8 hr2 (by omega) (by omega) (by omega) (by omega)
/-- promise 6: rule k of the least way, where it has one -/
theorem pf_step {B E C O : fg_A} {n : Int32} {N a b k0 d : Nat} (Hw : wfm B E C O n N) (ha : a < 28) (hb : b < 28) (F K : fg_A) (t : Int32) {F' K' : fg_A}
    (h1 : f_G_measureWaysTo B E O n F (nI b) = some F') (h2 : wf_all N (cl B) (cl E) (onb O) b F') (h3 : f_M_measure n B E O K (nI b) (-1) = some K') (h4 : wf_all N (cl B) (cl E) (onb O) b K') (hd : F' a = nI d) (hd8 : d ≤ 28) (hk : k0 < d) :
    ∃ r, f_G_step B E O n F (nI a) (nI b) (nI k0) = some (r, F') ∧ f_M_step t n B E O K (nI a) (nI b) (nI k0) = some (r, 0, K') := by
  obtain ⟨r, g1, g2⟩ := pf_walk (k0 := k0) Hw (by omega) h2 h4 fu 0 a d (-1) ha hd hd8 (by omega) (by omega) (by show k0 + 1 < 0 + 1000; omega)
  have hKa : K' a = nI d := by rw [← wf_same h2 h4 ha]; exact hd
  refine ⟨r, ?_, ?_⟩
  · have g3 : f_G_ruleOfLeastWay B E O n F' (nI a) (nI k0) = some r := g1
    unfold f_G_step
    rw [fg_ob_s (pf_need ha hb), fg_ob_s h1, if_neg (nI_pos (by omega)), fg_og_t (ix_nI ha (by decide)), nI_clamp (by omega), hd, if_pos (nI_lt hk (by omega)), fg_ob_s g3]
  · have e1 : f_M_refuse t 0 0 = some (0, 0) := rfl
    obtain ⟨d, rfl⟩ : ∃ j, d = j + 1 := ⟨d - 1, by omega⟩
    have e2 : f_M_in (nI k0) 0 (nI (d + 1) - 1) = some 1 := by
      unfold f_M_in
      rw [nI_pred, if_neg (nI_pos (by omega)), if_neg (nI_nlt (by omega) (by omega))]
    unfold f_M_step
    rw [fg_ob_s (pf_isNode ha), if_neg (by decide), fg_ob_s (pf_isNode hb), if_neg (by decide), fg_ob_s h3, fg_og_t (ix_nI ha (by decide)), nI_clamp (by omega), hKa, fg_ob_s e2, if_neg (by decide), fg_ob_s e1, if_pos rfl]
    rw [fg_ob_s (show f_M_step_95 n B E O K' (nI k0) fu (nI a) (-1) 0 = some r from g2)]
end
section
/-! Masks of nodes; what is reached; circles; what is passed. -/
theorem mb_one : ∀ v, v < 32 → ∀ i, i < 32 → bt ((1 : Int32) <<< (nI v &&& 31)) i = decide (i = v) := by decide +kernel
theorem mb_low : ∀ v, v < 28 → ∀ i, i < 32 → bt (((1 : Int32) <<< (nI v &&& 31)) - 1) i = decide (i < v) := by decide +kernel
theorem mb_lsb : ∀ i, i < 32 → bt 1 i = decide (i = 0) := by decide +kernel
theorem mb_has {x : Int32} {v : Nat} (hv : v < 32) : (x &&& ((1 : Int32) <<< (nI v &&& 31))) = 0 ↔ bt x v = false := by
  constructor
  · intro h
    have h1 := b_and x ((1 : Int32) <<< (nI v &&& 31)) v
    rw [h, b_0, mb_one v hv v hv] at h1
    simpa using h1.symm
  · intro h
    refine b_ext fun i hi => ?_
    rw [b_and, b_0, mb_one v hv i hi]
    by_cases q : i = v
    · rw [q, h]; rfl
    · simp [q]
theorem mb_bit {x : Int32} {v : Nat} (hv : v < 32) : ((x >>> (nI v &&& 31)) &&& 1) = 1 ↔ bt x v = true := by
  have h0 : bt (x >>> (nI v &&& 31)) 0 = bt x v := by rw [b_sshr v hv x (by omega), if_pos (by omega)]; rfl
  have h1 : ∀ i, i < 32 → bt ((x >>> (nI v &&& 31)) &&& 1) i = (decide (i = 0) && bt x v) := fun i hi => by
    rw [b_and, mb_lsb i hi]
    by_cases q : i = 0
    · rw [q, h0]; simp
    · simp [q]
  constructor
  · intro h
    have := h1 0 (by omega)
    rw [h, mb_lsb 0 (by omega)] at this
    simpa using this.symm
  · intro h
    refine b_ext fun i hi => ?_
    rw [h1 i hi, h, mb_lsb i hi]; simp
theorem pf_has {x : Int32} {v : Nat} (hv : v < 32) : f_G_has x (nI v) = some (if bt x v = true then 1 else 0) := by
  unfold f_G_has
  rw [fg_ob_s (show f_G_bit (nI v) = some ((1 : Int32) <<< (nI v &&& 31)) from rfl)]
  by_cases h : bt x v = true
  · rw [if_pos h, if_neg (fun q => by rw [mb_has hv] at q; rw [q] at h; cases h)]
  · rw [if_neg h, if_pos ((mb_has hv).mpr (by simpa using h))]
theorem mb_or {x : Int32} {v i : Nat} (hv : v < 32) (hi : i < 32) : bt (x ||| ((1 : Int32) <<< (nI v &&& 31))) i = (bt x i || decide (i = v)) := by rw [b_or, mb_one v hv i hi]
/-- the mask's nodes are below 28 -/
def mk28 (x : Int32) : Prop := ∀ i, 28 ≤ i → bt x i = false
theorem mk28_or {x : Int32} {v : Nat} (h : mk28 x) (hv : v < 28) : mk28 (x ||| ((1 : Int32) <<< (nI v &&& 31))) := fun i hi => by
  rcases Nat.lt_or_ge i 32 with q | q
  · rw [mb_or (by omega) q, h i hi, decide_eq_false (by omega)]; rfl
  · exact b_big q
theorem mk_ext {x y : Int32} (hx : mk28 x) (hy : mk28 y) (h : ∀ v, v < 28 → bt x v = bt y v) : x = y := b_ext fun i _ => by
  rcases Nat.lt_or_ge i 28 with q | q
  · exact h i q
  · rw [hx i q, hy i q]
/-- the rules that end at no closed node -/
def okc (E O : fg_A) (z : Int32) (r : Nat) : Bool := onb O r && !bt z (cl E r)
theorem okc_t {E O : fg_A} {z : Int32} {r : Nat} : okc E O z r = true ↔ (¬ O r = 0 ∧ bt z (cl E r) = false) := by
  unfold okc onb
  simp [Bool.and_eq_true]
theorem pf_r33 {B E C O : fg_A} {n z x6 x7 : Int32} {N s : Nat} (Hw : wfm B E C O n N) :
    ∀ (k i : Nat) (x : Int32), i ≤ N → N < i + k → mk28 x → (∀ v, bt x v = true → ∃ d, wk N (cl B) (cl E) (okc E O z) d s v) →
      ∃ y, f_G_reach_33 B E O n z x6 x7 k x (nI i) = some y ∧ mk28 y ∧ (∀ v, bt x v = true → bt y v = true) ∧ (∀ v, bt y v = true → ∃ d, wk N (cl B) (cl E) (okc E O z) d s v) ∧ ∀ r, i ≤ r → r < N → okc E O z r = true → bt x (cl B r) = true → bt y (cl E r) = true := by
  obtain ⟨hN, hn, hw⟩ := id Hw
  intro k
  induction k with
  | zero => intro i x hi hk; omega
  | succ k ih =>
    intro i x hi hk hx hs
    rw [f_G_reach_33]
    rcases Nat.lt_or_ge i N with q | q
    · obtain ⟨⟨hB, hB8⟩, ⟨hE, hE8⟩, -⟩ := hw i q
      have h90 : ix (nI i) 90 = true := ix_nI (by omega) (by decide)
      have hci : (nI i).toNatClampNeg = i := nI_clamp (by omega)
      rw [if_neg (show ¬ n ≤ nI i by rw [hn]; exact nI_ge q (by omega)), fg_og_t h90, hci, nI_1]
      have go : (okc E O z i = true → bt x (cl B i) = true → False) → ∃ y, f_G_reach_33 B E O n z x6 x7 k x (nI (i + 1)) = some y ∧ mk28 y ∧ (∀ v, bt x v = true → bt y v = true) ∧ (∀ v, bt y v = true → ∃ d, wk N (cl B) (cl E) (okc E O z) d s v) ∧ ∀ r, i ≤ r → r < N → okc E O z r = true → bt x (cl B r) = true → bt y (cl E r) = true := fun hno => by
        obtain ⟨y, a1, a2, a3, a4, a5⟩ := ih (i + 1) x (by omega) (by omega) hx hs
        refine ⟨y, a1, a2, a3, a4, fun r hr hrN ho hb => ?_⟩
        rcases Nat.lt_or_ge i r with w | w
        · exact a5 r (by omega) hrN ho hb
        · have e1 : r = i := by omega
          subst e1; exact (hno ho hb).elim
      by_cases hO : O i = 0
      · rw [if_pos hO]; exact go (fun ho => absurd hO (okc_t.mp ho).1)
      · rw [if_neg hO, fg_og_t h90, hB, fg_ob_s (pf_has (by omega))]
        by_cases hb : bt x (cl B i) = true
        · rw [if_pos hb, if_neg (by decide), fg_og_t h90, hE, fg_ob_s (pf_has (by omega))]
          by_cases hz : bt z (cl E i) = true
          · rw [if_pos hz, if_neg (by decide)]
            exact go (fun ho => by rw [(okc_t.mp ho).2] at hz; cases hz)
          · have hz2 : bt z (cl E i) = false := by simpa using hz
            rw [if_neg hz, if_pos rfl, fg_og_t h90, fg_ob_s (show f_G_bit (nI (cl E i)) = some ((1 : Int32) <<< (nI (cl E i) &&& 31)) from rfl)]
            have hoi : okc E O z i = true := okc_t.mpr ⟨hO, hz2⟩
            obtain ⟨y, a1, a2, a3, a4, a5⟩ := ih (i + 1) (x ||| ((1 : Int32) <<< (nI (cl E i) &&& 31))) (by omega) (by omega) (mk28_or hx hE8) (fun v hv => by
              rcases Nat.lt_or_ge v 32 with w | w
              · rw [mb_or (by omega) w, Bool.or_eq_true, decide_eq_true_eq] at hv
                rcases hv with hv | hv
                · exact hs v hv
                · obtain ⟨d, hd⟩ := hs _ hb
                  rw [hv]
                  exact ⟨d + 1, wk_snoc hd q hoi rfl⟩
              · rw [b_big w] at hv; cases hv)
            have up : ∀ v, bt x v = true → bt y v = true := fun v hv => a3 v (by rw [b_or, hv]; rfl)
            refine ⟨y, a1, a2, up, a4, fun r hr hrN ho hb2 => ?_⟩
            rcases Nat.lt_or_ge i r with w | w
            · exact a5 r (by omega) hrN ho (by rw [b_or, hb2]; rfl)
            · have e1 : r = i := by omega
              subst e1
              exact a3 _ (by rw [mb_or (by omega) (by omega)]; simp)
        · rw [if_neg hb, if_pos rfl]
          exact go (fun _ h => hb h)
    · have e1 : i = N := by omega
      subst e1
      rw [if_pos (show n ≤ nI i by rw [hn]; exact nI_le (Nat.le_refl i) (by omega))]
      exact ⟨x, rfl, hx, fun _ h => h, hs, fun r hr hrN => absurd hrN (by omega)⟩
theorem pf_r12 {B E C O : fg_A} {n z : Int32} {N s : Nat} (Hw : wfm B E C O n N) :
    ∀ (k j : Nat) (x y : Int32), j ≤ 28 → 28 < j + k → mk28 x → bt x s = true → (∀ v, bt x v = true → ∃ d, wk N (cl B) (cl E) (okc E O z) d s v) →
      (x = y ∧ (∀ r, r < N → okc E O z r = true → bt x (cl B r) = true → bt x (cl E r) = true) ∨ x ≠ y ∧ j + 1 ≤ ct (bt x) 28) →
      ∃ y', f_G_reach_12 B E O n z k x y (nI j) = some y' ∧ mk28 y' ∧ bt y' s = true ∧ (∀ v, bt y' v = true → ∃ d, wk N (cl B) (cl E) (okc E O z) d s v) ∧ ∀ r, r < N → okc E O z r = true → bt y' (cl B r) = true → bt y' (cl E r) = true := by
  intro k
  induction k with
  | zero => intro j x y hj hk; omega
  | succ k ih =>
    intro j x y hj hk hx hxs hs hc
    rw [f_G_reach_12]
    rcases hc with ⟨rfl, hcl⟩ | ⟨hne, hct⟩
    · by_cases q : (28 : Int32) ≤ nI j
      · rw [if_pos q]; exact ⟨x, rfl, hx, hxs, hs, hcl⟩
      · rw [if_neg q, if_pos rfl]; exact ⟨x, rfl, hx, hxs, hs, hcl⟩
    · have hj2 : j < 28 := by have := ct_le (p := bt x) 28; omega
      rw [if_neg (show ¬ (28 : Int32) ≤ nI j from nI_ge hj2 (by decide)), if_neg hne]
      obtain ⟨w, a1, a2, a3, a4, a5⟩ := pf_r33 (z := z) (x6 := x) (x7 := nI j) (s := s) Hw fu 0 x (Nat.zero_le N) (by show N < 0 + 1000; have := Hw.1; omega) hx hs
      rw [fg_ob_s (show f_G_reach_33 B E O n z x (nI j) fu x 0 = some w from a1), nI_1]
      refine ih (j + 1) w x (by omega) (by omega) a2 (a3 s hxs) a4 ?_
      by_cases q : w = x
      · subst q
        exact Or.inl ⟨rfl, fun r hr ho hb => a5 r (Nat.zero_le r) hr ho hb⟩
      · refine Or.inr ⟨q, ?_⟩
        have : ∃ v, v < 28 ∧ bt x v = false ∧ bt w v = true := by
          apply Classical.byContradiction
          intro hno
          apply q
          refine mk_ext a2 hx fun v hv => ?_
          cases h1 : bt x v with
          | true => exact a3 v h1
          | false =>
            cases h2 : bt w v with
            | false => rfl
            | true => exact (hno ⟨v, hv, h1, h2⟩).elim
        obtain ⟨v, v1, v2, v3⟩ := this
        have := ct_lt (p := bt x) (q := bt w) (fun i _ h => a3 i h) v1 v2 v3
        omega
/-- what the class reaches -/
theorem pf_reach {B E C O : fg_A} {n z : Int32} {N s : Nat} (Hw : wfm B E C O n N) (hs : s < 28) :
    ∃ y, f_G_reach B E O n (nI s) z = some y ∧ mk28 y ∧ ∀ v, bt y v = true ↔ ∃ d, wk N (cl B) (cl E) (okc E O z) d s v := by
  have h0 : mk28 ((1 : Int32) <<< (nI s &&& 31)) := fun i hi => by
    rcases Nat.lt_or_ge i 32 with q | q
    · rw [mb_one s (by omega) i q, decide_eq_false (by omega)]
    · exact b_big q
  have h1 : bt ((1 : Int32) <<< (nI s &&& 31)) s = true := by rw [mb_one s (by omega) s (by omega)]; simp
  have h2 : ∀ v, bt ((1 : Int32) <<< (nI s &&& 31)) v = true → ∃ d, wk N (cl B) (cl E) (okc E O z) d s v := fun v hv => by
    rcases Nat.lt_or_ge v 32 with q | q
    · rw [mb_one s (by omega) v q, decide_eq_true_eq] at hv
      exact ⟨0, hv.symm⟩
    · rw [b_big q] at hv; cases hv
  obtain ⟨y, a1, a2, a3, a4, a5⟩ := pf_r12 (z := z) Hw fu 0 ((1 : Int32) <<< (nI s &&& 31)) 0 (by omega) (by decide) h0 h1 h2 (Or.inr ⟨fun q => (by rw [q, b_0] at h1; cases h1), by
    have := ct_lt (p := fun _ => false) (q := bt ((1 : Int32) <<< (nI s &&& 31))) (fun _ _ h => (by cases h)) hs rfl h1
    omega⟩)
  refine ⟨y, ?_, a2, fun v => ⟨a4 v, fun ⟨d, hd⟩ => wk_fwd (T := bt y) a5 hd a3⟩⟩
  unfold f_G_reach
  rw [fg_ob_s (show f_G_bit (nI s) = some ((1 : Int32) <<< (nI s &&& 31)) from rfl), fg_ob_s (show f_G_reach_12 B E O n z fu ((1 : Int32) <<< (nI s &&& 31)) 0 0 = some y from a1)]
theorem okc_0 {E O : fg_A} (r : Nat) : okc E O 0 r = onb O r := by unfold okc; rw [b_0]; simp
theorem wk_0 {B E O : fg_A} {N d x y : Nat} : wk N (cl B) (cl E) (okc E O 0) d x y ↔ wk N (cl B) (cl E) (onb O) d x y :=
  ⟨wk_congr fun r _ h => by rw [← okc_0 (E := E)]; exact h, wk_congr fun r _ h => by rw [okc_0]; exact h⟩
theorem wfm.swap {B E C O : fg_A} {n : Int32} {N : Nat} (h : wfm B E C O n N) : wfm E B C O n N :=
  ⟨h.1, h.2.1, fun r hr => by obtain ⟨a1, a2, a3, a4, a5⟩ := h.2.2 r hr; exact ⟨a2, a1, fun q => a3 q.symm, a4, a5⟩⟩
/-- x and y go in a circle -/
def scc (B E O : fg_A) (N x y : Nat) : Prop := (∃ d, wk N (cl B) (cl E) (onb O) d x y) ∧ ∃ d, wk N (cl B) (cl E) (onb O) d y x
theorem scc_symm {B E O : fg_A} {N x y : Nat} (h : scc B E O N x y) : scc B E O N y x := ⟨h.2, h.1⟩
theorem scc_trans {B E O : fg_A} {N x y z : Nat} (h : scc B E O N x y) (k : scc B E O N y z) : scc B E O N x z := by
  obtain ⟨⟨d1, h1⟩, ⟨d2, h2⟩⟩ := h
  obtain ⟨⟨d3, h3⟩, ⟨d4, h4⟩⟩ := k
  exact ⟨⟨_, wk_app h1 h3⟩, ⟨_, wk_app h4 h2⟩⟩
theorem scc_refl {B E O : fg_A} {N x : Nat} : scc B E O N x x := ⟨⟨0, rfl⟩, ⟨0, rfl⟩⟩
/-- the class's circle -/
theorem pf_circ {B E C O : fg_A} {n : Int32} {N v : Nat} (Hw : wfm B E C O n N) (hv : v < 28) : ∃ y, f_G_circleOf B E O n (nI v) = some y ∧ mk28 y ∧ ∀ w, bt y w = true ↔ scc B E O N v w := by
  obtain ⟨y1, a1, a2, a3⟩ := pf_reach (z := 0) Hw hv
  obtain ⟨y2, c1, c2, c3⟩ := pf_reach (z := 0) Hw.swap hv
  refine ⟨y1 &&& y2, ?_, fun i hi => by rw [b_and, a2 i hi]; rfl, fun w => ?_⟩
  · unfold f_G_circleOf
    rw [fg_ob_s a1, fg_ob_s c1]
  · rw [b_and, Bool.and_eq_true, a3, c3]
    unfold scc
    constructor
    · rintro ⟨⟨d, hd⟩, ⟨i, hi⟩⟩
      exact ⟨⟨d, wk_0.mp hd⟩, ⟨i, wk_rev (wk_0.mp hi)⟩⟩
    · rintro ⟨⟨d, hd⟩, ⟨i, hi⟩⟩
      exact ⟨⟨d, wk_0.mpr hd⟩, ⟨i, wk_0.mpr (wk_rev hi)⟩⟩
end
section
/-! Circles and passed nodes: the reference's loops, and both are alike. -/
theorem pf_b10 {F : fg_A} {P : Nat → Prop} (hF : ∀ v, v < 28 → (¬ F v < 0 ↔ P v)) :
    ∀ (k i : Nat) (x : Int32), i ≤ 28 → 28 < i + k → mk28 x → (∀ v, v < 28 → (bt x v = true ↔ v < i ∧ P v)) → ∃ y, f_M_before_10 F k x (nI i) = some y ∧ mk28 y ∧ ∀ v, v < 28 → (bt y v = true ↔ P v) := by
  intro k
  induction k with
  | zero => intro i x hi hk; omega
  | succ k ih =>
    intro i x hi hk hx hb
    rw [f_M_before_10]
    rcases Nat.lt_or_ge i 28 with q | q
    · rw [if_neg (show ¬ (28 : Int32) ≤ nI i from nI_ge q (by decide)), fg_og_t (ix_nI q (by decide)), nI_clamp (by omega), nI_1]
      by_cases h : F i < 0
      · rw [if_pos h]
        refine ih (i + 1) x (by omega) (by omega) hx fun v hv => ?_
        rw [hb v hv]
        constructor
        · rintro ⟨a, p⟩; exact ⟨by omega, p⟩
        · rintro ⟨a, p⟩
          have hne : v ≠ i := fun e => by subst e; exact (hF v hv).mpr p h
          exact ⟨by omega, p⟩
      · rw [if_neg h]
        refine ih (i + 1) _ (by omega) (by omega) (mk28_or hx q) fun v hv => ?_
        rw [mb_or (by omega) (by omega), Bool.or_eq_true, decide_eq_true_eq, hb v hv]
        constructor
        · rintro (⟨a, p⟩ | rfl)
          · exact ⟨by omega, p⟩
          · exact ⟨by omega, (hF _ q).mp h⟩
        · rintro ⟨a, p⟩
          by_cases e : v = i
          · exact Or.inr e
          · exact Or.inl ⟨by omega, p⟩
    · rw [if_pos (show (28 : Int32) ≤ nI i from nI_le q (by omega))]
      exact ⟨x, rfl, hx, fun v hv => by rw [hb v hv]; exact ⟨fun h => h.2, fun h => ⟨by omega, h⟩⟩⟩
theorem wf_neg {N t x : Nat} {b e : Nat → Nat} {ok : Nat → Bool} {F : fg_A} (h : wf_all N b e ok t F) (hx : x < 28) : ¬ F x < 0 ↔ ∃ d, wk N b e ok d x t := by
  rcases h x hx with ⟨d, a1, a2, a3⟩ | ⟨a1, a2⟩
  · rw [a2]
    exact ⟨fun _ => ⟨d, a3.1⟩, fun _ => nI_pos (by omega)⟩
  · rw [a1]
    exact ⟨fun q => absurd (by decide) q, fun ⟨d, hd⟩ => absurd hd (a2 d)⟩
theorem mk28_0 : mk28 0 := fun i _ => b_0 i
theorem pf_before {B E C O : fg_A} {n : Int32} {N v : Nat} (Hw : wfm B E C O n N) (hv : v < 28) (K : fg_A) :
    ∃ y K', f_M_before n B E O K (nI v) = some (y, K') ∧ mk28 y ∧ ∀ w, w < 28 → (bt y w = true ↔ ∃ d, wk N (cl B) (cl E) (onb O) d w v) := by
  obtain ⟨K', h1, h2⟩ := pf_mm Hw hv K (-1)
  have h3 := wf_all_congr (okm_m1 Hw) h2
  obtain ⟨y, a1, a2, a3⟩ := pf_b10 (F := K') (fun w hw => wf_neg h3 hw) fu 0 0 (by omega) (by decide) mk28_0 (fun w _ => by rw [b_0]; exact ⟨fun h => (by cases h), fun h => absurd h.1 (Nat.not_lt_zero w)⟩)
  refine ⟨y, K', ?_, a2, a3⟩
  unfold f_M_before
  rw [fg_ob_s h1, fg_ob_s (show f_M_before_10 K' fu 0 0 = some y from a1)]
theorem pf_c11 {B E C O : fg_A} {n x2 : Int32} {N v : Nat} (Hw : wfm B E C O n N) (hv : v < 28) (h2 : ∀ w, w < 28 → (bt x2 w = true ↔ ∃ d, wk N (cl B) (cl E) (onb O) d w v)) :
    ∀ (k i : Nat) (x : Int32) (K : fg_A), i ≤ 28 → 28 < i + k → mk28 x → (∀ w, w < 28 → (bt x w = true ↔ w < i ∧ scc B E O N v w)) → ∃ y K', f_M_circleOf_11 n B E O (nI v) x2 k x (nI i) K = some (y, K') ∧ mk28 y ∧ ∀ w, w < 28 → (bt y w = true ↔ scc B E O N v w) := by
  intro k
  induction k with
  | zero => intro i x K hi hk; omega
  | succ k ih =>
    intro i x K hi hk hx hb
    rw [f_M_circleOf_11]
    rcases Nat.lt_or_ge i 28 with q | q
    · rw [if_neg (show ¬ (28 : Int32) ≤ nI i from nI_ge q (by decide)), nI_1]
      have miss : ∀ K2, ¬ scc B E O N v i → ∃ y K', f_M_circleOf_11 n B E O (nI v) x2 k x (nI (i + 1)) K2 = some (y, K') ∧ mk28 y ∧ ∀ w, w < 28 → (bt y w = true ↔ scc B E O N v w) := fun K2 hno => by
        refine ih (i + 1) x K2 (by omega) (by omega) hx fun w hw => ?_
        rw [hb w hw]
        constructor
        · rintro ⟨a, p⟩; exact ⟨by omega, p⟩
        · rintro ⟨a, p⟩
          have hne : w ≠ i := fun e => by subst e; exact hno p
          exact ⟨by omega, p⟩
      by_cases h : bt x2 i = true
      · rw [if_pos ((mb_bit (by omega)).mpr h)]
        obtain ⟨y, K', a1, a2, a3⟩ := pf_before Hw q K
        rw [fg_ob_s a1]
        dsimp only
        by_cases h' : bt y v = true
        · rw [if_pos ((mb_bit (by omega)).mpr h')]
          have hsc : scc B E O N v i := ⟨(a3 v hv).mp h', (h2 i q).mp h⟩
          refine ih (i + 1) _ K' (by omega) (by omega) (mk28_or hx q) fun w hw => ?_
          rw [mb_or (by omega) (by omega), Bool.or_eq_true, decide_eq_true_eq, hb w hw]
          constructor
          · rintro (⟨a, p⟩ | rfl)
            · exact ⟨by omega, p⟩
            · exact ⟨by omega, hsc⟩
          · rintro ⟨a, p⟩
            by_cases e : w = i
            · exact Or.inr e
            · exact Or.inl ⟨by omega, p⟩
        · rw [if_neg (fun z => h' ((mb_bit (by omega)).mp z))]
          exact miss K' (fun hs => h' ((a3 v hv).mpr hs.1))
      · rw [if_neg (fun z => h ((mb_bit (by omega)).mp z))]
        exact miss K (fun hs => h ((h2 i q).mpr hs.2))
    · rw [if_pos (show (28 : Int32) ≤ nI i from nI_le q (by omega))]
      exact ⟨x, K, rfl, hx, fun w hw => by rw [hb w hw]; exact ⟨fun h => h.2, fun h => ⟨by omega, h⟩⟩⟩
/-- the reference's circle -/
theorem pf_circM {B E C O : fg_A} {n : Int32} {N v : Nat} (Hw : wfm B E C O n N) (hv : v < 28) (K : fg_A) : ∃ y K', f_M_circleOf n B E O K (nI v) = some (y, K') ∧ mk28 y ∧ ∀ w, w < 28 → (bt y w = true ↔ scc B E O N v w) := by
  obtain ⟨x2, K1, a1, a2, a3⟩ := pf_before Hw hv K
  obtain ⟨y, K', c1, c2, c3⟩ := pf_c11 Hw hv a3 fu 0 0 K1 (by omega) (by decide) mk28_0 (fun w _ => by rw [b_0]; exact ⟨fun h => (by cases h), fun h => absurd h.1 (Nat.not_lt_zero w)⟩)
  refine ⟨y, K', ?_, c2, c3⟩
  unfold f_M_circleOf
  rw [fg_ob_s a1]
  dsimp only
  rw [fg_ob_s (show f_M_circleOf_11 n B E O (nI v) x2 fu 0 0 K1 = some (y, K') from c1)]
/-- promise 8 -/
theorem pf_circle {B E C O : fg_A} {n : Int32} {N v : Nat} (Hw : wfm B E C O n N) (hv : v < 28) (K : fg_A) (t : Int32) : ∃ (y : Int32) (K' : fg_A), f_G_circle B E O n (nI v) = some y ∧ f_M_circle t n B E O K (nI v) = some (y, 0, K') := by
  obtain ⟨y, a1, a2, a3⟩ := pf_circ Hw hv
  obtain ⟨z, K', c1, c2, c3⟩ := pf_circM Hw hv K
  have e1 : y = z := mk_ext a2 c2 fun w hw => by
    cases h1 : bt y w <;> cases h2 : bt z w
    · rfl
    · rw [(a3 w).mpr ((c3 w hw).mp h2)] at h1; cases h1
    · rw [(c3 w hw).mpr ((a3 w).mp h1)] at h2; cases h2
    · rfl
  subst e1
  refine ⟨y, K', ?_, ?_⟩
  · unfold f_G_circle
    rw [fg_ob_s (pf_need1 hv), fg_ob_s a1]
  · have e2 : f_M_refuse t 0 0 = some (0, 0) := rfl
    unfold f_M_circle
    rw [fg_ob_s (pf_isNode hv), if_neg (by decide), fg_ob_s e2]
    dsimp only
    rw [if_pos rfl, fg_ob_s c1]
/-- v is the least of its circle -/
def ldr (B E O : fg_A) (N v : Nat) : Prop := ∀ u, u < v → ¬ scc B E O N v u
noncomputable def ldb (B E O : fg_A) (N v : Nat) : Bool := @decide (ldr B E O N v) (Classical.propDecidable _)
theorem ldb_t {B E O : fg_A} {N v : Nat} : ldb B E O N v = true ↔ ldr B E O N v := by unfold ldb; simp
theorem pf_cs6 {B E C O : fg_A} {n : Int32} {N : Nat} (Hw : wfm B E C O n N) :
    ∀ (k i : Nat) (x : Int32), i ≤ 28 → 28 < i + k → (∀ w, w < 28 → (bt x w = true ↔ ∃ u, u < i ∧ scc B E O N u w)) → f_G_circles_6 B E O n k x (nI (ct (ldb B E O N) i)) (nI i) = some (nI (ct (ldb B E O N) 28)) := by
  intro k
  induction k with
  | zero => intro i x hi hk; omega
  | succ k ih =>
    intro i x hi hk hx
    rw [f_G_circles_6]
    rcases Nat.lt_or_ge i 28 with q | q
    · rw [if_neg (show ¬ (28 : Int32) ≤ nI i from nI_ge q (by decide)), fg_ob_s (pf_has (by omega)), nI_1]
      by_cases h : bt x i = true
      · rw [if_pos h, if_neg (by decide)]
        obtain ⟨u, hu, hsu⟩ := (hx i q).mp h
        have hl : ¬ ldb B E O N i = true := fun z => ldb_t.mp z u hu (scc_symm hsu)
        have e1 : ct (ldb B E O N) (i + 1) = ct (ldb B E O N) i := by show ct (ldb B E O N) i + (if ldb B E O N i = true then 1 else 0) = _; rw [if_neg hl]; rfl
        rw [← e1, nI_1]
        refine ih (i + 1) x (by omega) (by omega) fun w hw => ?_
        rw [hx w hw]
        constructor
        · rintro ⟨z, hz, hs⟩; exact ⟨z, by omega, hs⟩
        · rintro ⟨z, hz, hs⟩
          by_cases e : z = i
          · subst e; exact ⟨u, hu, scc_trans hsu hs⟩
          · exact ⟨z, by omega, hs⟩
      · rw [if_neg h, if_pos rfl]
        obtain ⟨y, a1, a2, a3⟩ := pf_circ Hw q
        rw [fg_ob_s a1, nI_1]
        have hl : ldb B E O N i = true := ldb_t.mpr fun u hu hs => h ((hx i q).mpr ⟨u, hu, scc_symm hs⟩)
        have e1 : ct (ldb B E O N) (i + 1) = ct (ldb B E O N) i + 1 := by show ct (ldb B E O N) i + (if ldb B E O N i = true then 1 else 0) = _; rw [if_pos hl]
        rw [← e1]
        refine ih (i + 1) _ (by omega) (by omega) fun w hw => ?_
        rw [b_or, Bool.or_eq_true, hx w hw, a3 w]
        constructor
        · rintro (⟨z, hz, hs⟩ | hs)
          · exact ⟨z, by omega, hs⟩
          · exact ⟨i, by omega, hs⟩
        · rintro ⟨z, hz, hs⟩
          by_cases e : z = i
          · subst e; exact Or.inr hs
          · exact Or.inl ⟨z, by omega, hs⟩
    · have e1 : i = 28 := by omega
      subst e1
      rw [if_pos (show (28 : Int32) ≤ nI 28 from nI_le (Nat.le_refl 28) (by decide))]
theorem pf_cs9 {B E C O : fg_A} {n : Int32} {N : Nat} (Hw : wfm B E C O n N) :
    ∀ (k i : Nat) (K : fg_A), i ≤ 28 → 28 < i + k → ∃ K', f_M_circles_9 n B E O k (nI (ct (ldb B E O N) i)) (nI i) K = some (nI (ct (ldb B E O N) 28), K') := by
  intro k
  induction k with
  | zero => intro i K hi hk; omega
  | succ k ih =>
    intro i K hi hk
    rw [f_M_circles_9]
    rcases Nat.lt_or_ge i 28 with q | q
    · obtain ⟨y, K', a1, a2, a3⟩ := pf_circM Hw q K
      rw [if_neg (show ¬ (28 : Int32) ≤ nI i from nI_ge q (by decide)), fg_ob_s a1, nI_1]
      dsimp only
      have key : (y &&& (((1 : Int32) <<< (nI i &&& 31)) - 1)) = 0 ↔ ldb B E O N i = true := by
        rw [ldb_t]
        constructor
        · intro h u hu hs
          have h1 := b_and y (((1 : Int32) <<< (nI i &&& 31)) - 1) u
          rw [h, b_0, mb_low i q u (by omega), (a3 u (by omega)).mpr hs, decide_eq_true hu] at h1
          cases h1
        · intro h
          refine b_ext fun j hj => ?_
          rw [b_and, b_0, mb_low i q j hj]
          by_cases hji : j < i
          · have : bt y j = false := by
              cases hy : bt y j with
              | false => rfl
              | true => exact (h j hji ((a3 j (by omega)).mp hy)).elim
            rw [this]; rfl
          · rw [decide_eq_false hji]; simp
      by_cases h : ldb B E O N i = true
      · have e1 : ct (ldb B E O N) (i + 1) = ct (ldb B E O N) i + 1 := by show ct (ldb B E O N) i + (if ldb B E O N i = true then 1 else 0) = _; rw [if_pos h]
        rw [if_pos (key.mpr h), nI_1, ← e1]
        exact ih (i + 1) K' (by omega) (by omega)
      · have e1 : ct (ldb B E O N) (i + 1) = ct (ldb B E O N) i := by show ct (ldb B E O N) i + (if ldb B E O N i = true then 1 else 0) = _; rw [if_neg h]; rfl
        rw [if_neg (fun z => h (key.mp z)), ← e1, nI_1]
        exact ih (i + 1) K' (by omega) (by omega)
    · have e1 : i = 28 := by omega
      subst e1
      rw [if_pos (show (28 : Int32) ≤ nI 28 from nI_le (Nat.le_refl 28) (by decide))]
      exact ⟨K, rfl⟩
/-- promise 9 -/
theorem pf_circles {B E C O : fg_A} {n : Int32} {N : Nat} (Hw : wfm B E C O n N) (K : fg_A) (t : Int32) : ∃ (r : Int32) (K' : fg_A), f_G_circles B E O n = some r ∧ f_M_circles t n B E O K = some (r, 0, K') := by
  have h1 := pf_cs6 Hw fu 0 0 (by omega) (by decide) (fun w _ => by rw [b_0]; exact ⟨fun h => (by cases h), fun ⟨u, hu, _⟩ => absurd hu (Nat.not_lt_zero u)⟩)
  obtain ⟨K', h2⟩ := pf_cs9 Hw fu 0 K (by omega) (by decide)
  refine ⟨nI (ct (ldb B E O N) 28), K', ?_, ?_⟩
  · unfold f_G_circles
    rw [fg_ob_s (show f_G_circles_6 B E O n fu 0 0 0 = some (nI (ct (ldb B E O N) 28)) from h1)]
  · unfold f_M_circles
    rw [fg_ob_s (show f_M_circles_9 n B E O fu 0 0 K = some (nI (ct (ldb B E O N) 28), K') from h2)]
end
section
/-! What a way must pass. -/
/-- a way from a to b that keeps off v -/
def wo_ex (B E O : fg_A) (N a b v : Nat) : Prop := ∃ d, wk N (cl B) (cl E) (okm B E O (nI v)) d a b
theorem wo_cls {B E C O : fg_A} {n : Int32} {N v b : Nat} (Hw : wfm B E C O n N) (hv : v < 28) : ∀ {d a : Nat}, a ≠ v → wk N (cl B) (cl E) (okc E O ((1 : Int32) <<< (nI v &&& 31))) d a b → wk N (cl B) (cl E) (okm B E O (nI v)) d a b
  | 0, a, _, h => h
  | d + 1, a, ha, ⟨r, h1, h2, h3, h4⟩ => by
    obtain ⟨⟨hB, hB8⟩, ⟨hE, hE8⟩, -⟩ := Hw.2.2 r h1
    obtain ⟨o1, o2⟩ := okc_t.mp h2
    rw [mb_one v (by omega) _ (by omega), decide_eq_false_iff_not] at o2
    refine ⟨r, h1, okm_t.mpr ⟨o1, ?_, ?_⟩, h3, wo_cls Hw hv o2 h4⟩
    · rw [hB]; exact fun q => ha (h3.symm.trans ((nI_eq (by omega) (by omega)).mp q))
    · rw [hE]; exact fun q => o2 ((nI_eq (by omega) (by omega)).mp q)
theorem wo_cls2 {B E C O : fg_A} {n : Int32} {N v a b d : Nat} (Hw : wfm B E C O n N) (hv : v < 28) (h : wk N (cl B) (cl E) (okm B E O (nI v)) d a b) : wk N (cl B) (cl E) (okc E O ((1 : Int32) <<< (nI v &&& 31))) d a b := by
  refine wk_congr (fun r hr ho => ?_) h
  obtain ⟨-, ⟨hE, hE8⟩, -⟩ := Hw.2.2 r hr
  obtain ⟨o1, o2, o3⟩ := okm_t.mp ho
  refine okc_t.mpr ⟨o1, ?_⟩
  rw [mb_one v (by omega) _ (by omega), decide_eq_false_iff_not]
  exact fun q => o3 (by rw [hE, q])
theorem wo_far {B E C O : fg_A} {n : Int32} {N v a b : Nat} (Hw : wfm B E C O n N) (hv : v < 28) (hno : ¬ ∃ d, wk N (cl B) (cl E) (onb O) d a v) : ∀ {d x : Nat}, (∃ i, wk N (cl B) (cl E) (onb O) i a x) → wk N (cl B) (cl E) (onb O) d x b → wk N (cl B) (cl E) (okm B E O (nI v)) d x b
  | 0, x, _, h => h
  | d + 1, x, ⟨i, hi⟩, ⟨r, h1, h2, h3, h4⟩ => by
    obtain ⟨⟨hB, hB8⟩, ⟨hE, hE8⟩, -⟩ := Hw.2.2 r h1
    have hs := wk_snoc hi h1 h2 h3
    refine ⟨r, h1, okm_t.mpr ⟨onb_ne h2, ?_, ?_⟩, h3, wo_far Hw hv hno ⟨i + 1, hs⟩ h4⟩
    · rw [hB]; exact fun q => hno ⟨i, by rw [← (nI_eq (by omega) (by omega)).mp q, h3]; exact hi⟩
    · rw [hE]; exact fun q => hno ⟨i + 1, by rw [← (nI_eq (by omega) (by omega)).mp q]; exact hs⟩
def psd (B E O : fg_A) (N a b v : Nat) : Prop := v ≠ a ∧ v ≠ b ∧ ¬ wo_ex B E O N a b v
theorem mk_step {x : Int32} {i : Nat} {P : Nat → Prop} (hi : i < 28) (hx : ∀ v, v < 28 → (bt x v = true ↔ v < i ∧ P v)) :
    (¬ P i → ∀ v, v < 28 → (bt x v = true ↔ v < i + 1 ∧ P v)) ∧ (P i → ∀ v, v < 28 → (bt (x ||| ((1 : Int32) <<< (nI i &&& 31))) v = true ↔ v < i + 1 ∧ P v)) := by
  refine ⟨fun hn v hv => ?_, fun hp v hv => ?_⟩
  · rw [hx v hv]
    constructor
    · rintro ⟨a, p⟩; exact ⟨by omega, p⟩
    · rintro ⟨a, p⟩
      have hne : v ≠ i := fun e => by subst e; exact hn p
      exact ⟨by omega, p⟩
  · rw [mb_or (by omega) (by omega), Bool.or_eq_true, decide_eq_true_eq, hx v hv]
    constructor
    · rintro (⟨a, p⟩ | rfl)
      · exact ⟨by omega, p⟩
      · exact ⟨by omega, hp⟩
    · rintro ⟨a, p⟩
      by_cases e : v = i
      · exact Or.inr e
      · exact Or.inl ⟨by omega, p⟩
theorem pf_p36 {B E C O : fg_A} {n x3 : Int32} {N a b : Nat} (Hw : wfm B E C O n N) (ha : a < 28) (hb : b < 28) (h3 : ∀ v, bt x3 v = true ↔ ∃ d, wk N (cl B) (cl E) (onb O) d a v) (hway : ∃ d, wk N (cl B) (cl E) (onb O) d a b) :
    ∀ (k i : Nat) (x : Int32), i ≤ 28 → 28 < i + k → mk28 x → (∀ v, v < 28 → (bt x v = true ↔ v < i ∧ psd B E O N a b v)) → ∃ y, f_G_passed_36 B E O n (nI a) (nI b) x3 k x (nI i) = some y ∧ mk28 y ∧ ∀ v, v < 28 → (bt y v = true ↔ psd B E O N a b v) := by
  intro k
  induction k with
  | zero => intro i x hi hk; omega
  | succ k ih =>
    intro i x hi hk hx hbx
    rw [f_G_passed_36]
    rcases Nat.lt_or_ge i 28 with q | q
    · obtain ⟨miss, hit⟩ := mk_step q hbx
      have go : ¬ psd B E O N a b i → ∃ y, f_G_passed_36 B E O n (nI a) (nI b) x3 k x (nI (i + 1)) = some y ∧ mk28 y ∧ ∀ v, v < 28 → (bt y v = true ↔ psd B E O N a b v) := fun hn => ih (i + 1) x (by omega) (by omega) hx (miss hn)
      rw [if_neg (show ¬ (28 : Int32) ≤ nI i from nI_ge q (by decide)), nI_1]
      by_cases h1 : i = a
      · rw [if_pos (by rw [h1])]; exact go (fun p => p.1 h1)
      · rw [if_neg (fun z => h1 ((nI_eq (by omega) (by omega)).mp z))]
        by_cases h2 : i = b
        · rw [if_pos (by rw [h2])]; exact go (fun p => p.2.1 h2)
        · rw [if_neg (fun z => h2 ((nI_eq (by omega) (by omega)).mp z)), fg_ob_s (pf_has (by omega))]
          by_cases h4 : bt x3 i = true
          · rw [if_pos h4, if_neg (by decide), fg_ob_s (show f_G_bit (nI i) = some ((1 : Int32) <<< (nI i &&& 31)) from rfl)]
            obtain ⟨y, a1, a2, a3⟩ := pf_reach (z := (1 : Int32) <<< (nI i &&& 31)) Hw ha
            rw [fg_ob_s a1, fg_ob_s (pf_has (by omega))]
            by_cases h5 : bt y b = true
            · rw [if_pos h5, if_neg (by decide)]
              refine go (fun p => p.2.2 ?_)
              obtain ⟨d, hd⟩ := (a3 b).mp h5
              exact ⟨d, wo_cls Hw q (fun z => h1 z.symm) hd⟩
            · rw [if_neg h5, if_pos rfl, fg_ob_s (show f_G_bit (nI i) = some ((1 : Int32) <<< (nI i &&& 31)) from rfl)]
              exact ih (i + 1) _ (by omega) (by omega) (mk28_or hx q) (hit ⟨h1, h2, fun ⟨d, hd⟩ => h5 ((a3 b).mpr ⟨d, wo_cls2 Hw q hd⟩)⟩)
          · rw [if_neg h4, if_pos rfl]
            refine go (fun p => p.2.2 ?_)
            obtain ⟨d, hd⟩ := hway
            exact ⟨d, wo_far Hw q (fun z => h4 ((h3 i).mpr z)) ⟨0, rfl⟩ hd⟩
    · rw [if_pos (show (28 : Int32) ≤ nI i from nI_le q (by omega))]
      exact ⟨x, rfl, hx, fun v hv => by rw [hbx v hv]; exact ⟨fun h => h.2, fun h => ⟨by omega, h⟩⟩⟩
theorem pf_p56 {B E C O : fg_A} {n : Int32} {N a b : Nat} (Hw : wfm B E C O n N) (ha : a < 28) (hb : b < 28) :
    ∀ (k i : Nat) (x : Int32) (K : fg_A), i ≤ 28 → 28 < i + k → mk28 x → (∀ v, v < 28 → (bt x v = true ↔ v < i ∧ psd B E O N a b v)) → ∃ y K', f_M_passed_56 n B E O (nI a) (nI b) 1 k x (nI i) K = some (y, K') ∧ mk28 y ∧ ∀ v, v < 28 → (bt y v = true ↔ psd B E O N a b v) := by
  intro k
  induction k with
  | zero => intro i x K hi hk; omega
  | succ k ih =>
    intro i x K hi hk hx hbx
    rw [f_M_passed_56]
    rcases Nat.lt_or_ge i 28 with q | q
    · obtain ⟨miss, hit⟩ := mk_step q hbx
      have go : ∀ K2, ¬ psd B E O N a b i → ∃ y K', f_M_passed_56 n B E O (nI a) (nI b) 1 k x (nI (i + 1)) K2 = some (y, K') ∧ mk28 y ∧ ∀ v, v < 28 → (bt y v = true ↔ psd B E O N a b v) := fun K2 hn => ih (i + 1) x K2 (by omega) (by omega) hx (miss hn)
      rw [if_neg (show ¬ (28 : Int32) ≤ nI i from nI_ge q (by decide)), if_neg (show ¬ (1 : Int32) = 0 by decide), nI_1]
      by_cases h1 : i = a
      · rw [if_pos (by rw [h1])]; exact go K (fun p => p.1 h1)
      · rw [if_neg (fun z => h1 ((nI_eq (by omega) (by omega)).mp z))]
        by_cases h2 : i = b
        · rw [if_pos (by rw [h2])]; exact go K (fun p => p.2.1 h2)
        · rw [if_neg (fun z => h2 ((nI_eq (by omega) (by omega)).mp z))]
          obtain ⟨K', a1, a2⟩ := pf_mm Hw hb K (nI i)
          rw [fg_ob_s a1, fg_og_t (ix_nI ha (by decide)), nI_clamp (by omega)]
          have hw := wf_neg a2 ha
          by_cases h3 : 0 ≤ K' a
          · rw [if_pos h3]
            refine go K' (fun p => p.2.2 (hw.mp fun z => ?_))
            rw [Int32.lt_iff_toInt_lt] at z
            rw [Int32.le_iff_toInt_le] at h3
            omega
          · rw [if_neg h3]
            refine ih (i + 1) _ K' (by omega) (by omega) (mk28_or hx q) (hit ⟨h1, h2, fun z => ?_⟩)
            have := hw.mpr z
            rw [Int32.lt_iff_toInt_lt] at this
            rw [Int32.le_iff_toInt_le] at h3
            omega
    · rw [if_pos (show (28 : Int32) ≤ nI i from nI_le q (by omega))]
      exact ⟨x, K, rfl, hx, fun v hv => by rw [hbx v hv]; exact ⟨fun h => h.2, fun h => ⟨by omega, h⟩⟩⟩
/-- promise 7 -/
theorem pf_passed {B E C O : fg_A} {n : Int32} {N a b : Nat} (Hw : wfm B E C O n N) (ha : a < 28) (hb : b < 28) (K : fg_A) (t : Int32) : ∃ (y : Int32) (K' : fg_A), f_G_passed B E O n (nI a) (nI b) = some y ∧ f_M_passed t n B E O K (nI a) (nI b) = some (y, 0, K') := by
  obtain ⟨x3, a1, a2, a3⟩ := pf_reach (z := 0) Hw ha
  have a4 : ∀ v, bt x3 v = true ↔ ∃ d, wk N (cl B) (cl E) (onb O) d a v := fun v => by
    rw [a3 v]
    exact ⟨fun ⟨d, hd⟩ => ⟨d, wk_0.mp hd⟩, fun ⟨d, hd⟩ => ⟨d, wk_0.mpr hd⟩⟩
  obtain ⟨K1, c1, c2⟩ := pf_mm Hw hb K (-1)
  have c3 := wf_neg (wf_all_congr (okm_m1 Hw) c2) ha
  have e2 : f_M_refuse t 0 0 = some (0, 0) := rfl
  have z0 : ∀ v, v < 28 → (bt 0 v = true ↔ v < 0 ∧ psd B E O N a b v) := fun v _ => by rw [b_0]; exact ⟨fun h => (by cases h), fun h => absurd h.1 (Nat.not_lt_zero v)⟩
  by_cases h : bt x3 b = true
  · obtain ⟨y, g1, g2, g3⟩ := pf_p36 Hw ha hb a4 ((a4 b).mp h) fu 0 0 (by omega) (by decide) mk28_0 z0
    obtain ⟨y2, K', m1, m2, m3⟩ := pf_p56 Hw ha hb fu 0 0 K1 (by omega) (by decide) mk28_0 z0
    have e1 : y = y2 := mk_ext g2 m2 fun w hw => by
      cases h1 : bt y w <;> cases h2 : bt y2 w
      · rfl
      · rw [(g3 w hw).mpr ((m3 w hw).mp h2)] at h1; cases h1
      · rw [(m3 w hw).mpr ((g3 w hw).mp h1)] at h2; cases h2
      · rfl
    subst e1
    refine ⟨y, K', ?_, ?_⟩
    · unfold f_G_passed
      rw [fg_ob_s (pf_need ha hb), fg_ob_s a1, fg_ob_s (pf_has (by omega)), if_pos h, if_neg (by decide), fg_ob_s (show f_G_passed_36 B E O n (nI a) (nI b) x3 fu 0 0 = some y from g1)]
    · unfold f_M_passed
      rw [fg_ob_s (pf_isNode ha), if_neg (by decide), fg_ob_s (pf_isNode hb), if_neg (by decide), fg_ob_s e2]
      dsimp only
      rw [if_pos rfl, fg_ob_s c1, fg_og_t (ix_nI ha (by decide)), nI_clamp (by omega), if_neg (c3.mpr ((a4 b).mp h)), fg_ob_s (show f_M_passed_56 n B E O (nI a) (nI b) 1 fu 0 0 K1 = some (y, K') from m1)]
  · refine ⟨0, K1, ?_, ?_⟩
    · unfold f_G_passed
      rw [fg_ob_s (pf_need ha hb), fg_ob_s a1, fg_ob_s (pf_has (by omega)), if_neg h, if_pos rfl]
    · have hneg : K1 a < 0 := Classical.byContradiction fun z => h ((a4 b).mpr (c3.mp z))
      have m1 : f_M_passed_56 n B E O (nI a) (nI b) 0 fu 0 0 K1 = some (0, K1) := by
        show f_M_passed_56 n B E O (nI a) (nI b) 0 (999 + 1) 0 0 K1 = _
        rw [f_M_passed_56, if_neg (by decide), if_pos rfl]
      unfold f_M_passed
      rw [fg_ob_s (pf_isNode ha), if_neg (by decide), fg_ob_s (pf_isNode hb), if_neg (by decide), fg_ob_s e2]
      dsimp only
      rw [if_pos rfl, fg_ob_s c1, fg_og_t (ix_nI ha (by decide)), nI_clamp (by omega), if_pos hneg, fg_ob_s m1]
end
section
/-! The class's flow: what is found, what is pushed, the near side. -/
def fI (L : fg_A) (r : Nat) : Int := (L r).toInt
theorem ti_add {a b : Int32} (h1 : -20000 ≤ a.toInt) (h2 : a.toInt ≤ 20000) (h3 : -20000 ≤ b.toInt) (h4 : b.toInt ≤ 20000) : (a + b).toInt = a.toInt + b.toInt := by
  rw [Int32.toInt_add]
  exact Int.bmod_eq_of_le (by omega) (by omega)
theorem ti_sub {a b : Int32} (h1 : -20000 ≤ a.toInt) (h2 : a.toInt ≤ 20000) (h3 : -20000 ≤ b.toInt) (h4 : b.toInt ≤ 20000) : (a - b).toInt = a.toInt - b.toInt := by
  rw [Int32.toInt_sub]
  exact Int.bmod_eq_of_le (by omega) (by omega)
theorem ti_neg {b : Int32} (h3 : -20000 ≤ b.toInt) (h4 : b.toInt ≤ 20000) : (-b).toInt = -b.toInt := by
  rw [Int32.toInt_neg]
  exact Int.bmod_eq_of_le (by omega) (by omega)
theorem wfm.ci {B E C O : fg_A} {n : Int32} {N : Nat} (h : wfm B E C O n N) {r : Nat} (hr : r < N) : fI C r = (cl C r : Int) ∧ 1 ≤ fI C r ∧ fI C r ≤ 9 := by
  obtain ⟨-, -, -, ⟨h1, h2, h3⟩, -⟩ := h.2.2 r hr
  have e1 : fI C r = (cl C r : Int) := by
    unfold fI
    rw [h1]
    exact nI_toInt (by omega)
  exact ⟨e1, by omega, by omega⟩
theorem wfm.ne {B E C O : fg_A} {n : Int32} {N : Nat} (h : wfm B E C O n N) : ∀ r, r < N → cl B r ≠ cl E r := fun r hr => (h.2.2 r hr).2.2.1
/-- the class's search stands: x are the nodes found, V says how -/
def sp_T (B E C O : fg_A) (N s : Nat) (L V : fg_A) (x : Int32) : Prop :=
  mk28 x ∧ ∃ (rk : Nat → Nat) (K : Nat), tr_tree N (cl B) (cl E) (fI C) (onb O) s (fI L) (bt x) (cl V) rk K ∧ K ≤ ct (bt x) 28 ∧ ∀ v, bt x v = true → v ≠ s → V v = nI (cl V v)
theorem sp_T.lt {B E C O L V : fg_A} {N s : Nat} {x : Int32} (h : sp_T B E C O N s L V x) {v : Nat} (hv : bt x v = true) : v < 28 := by
  obtain ⟨-, rk, K, h1, -⟩ := h
  exact (h1.2.1 v hv).1
theorem sp_add {B E C O L V : fg_A} {n : Int32} {N s : Nat} {x : Int32} (Hw : wfm B E C O n N) (h : sp_T B E C O N s L V x) {v q : Nat} (hv : v < 28) (hx : bt x v = false) (hq : q < N) (hon : onb O q = true)
    (hd : (cl E q = v ∧ bt x (cl B q) = true ∧ fI L q < fI C q) ∨ (cl B q = v ∧ bt x (cl E q) = true ∧ 0 < fI L q)) :
    sp_T B E C O N s L (upd V v (nI q)) (x ||| ((1 : Int32) <<< (nI v &&& 31))) := by
  obtain ⟨h0, rk, K, h1, h2, h3⟩ := h
  have hq9 : q < 2 ^ 31 := by have := Hw.1; omega
  have hbt : ∀ w, (bt x w || decide (w = v)) = bt (x ||| ((1 : Int32) <<< (nI v &&& 31))) w := fun w => by
    rcases Nat.lt_or_ge w 32 with z | z
    · rw [mb_or (by omega) z]
    · rw [b_big z, b_big z, decide_eq_false (by omega)]; rfl
  have hcu : ∀ w, cl (upd V v (nI q)) w = if w = v then q else cl V w := fun w => by
    unfold cl
    by_cases z : w = v
    · rw [if_pos z, z, pk_us, nI_clamp hq9]
    · rw [if_neg z, pk_un z]
  refine ⟨mk28_or h0 hv, _, K + 1, tr_congr (tr_add h1 hv hx hq hon (Hw.ne q hq) hd) hbt (fun w _ _ => (hcu w).symm), ?_, fun w hw hws => ?_⟩
  · have := ct_lt (p := bt x) (q := bt (x ||| ((1 : Int32) <<< (nI v &&& 31)))) (n := 28) (j := v) (fun i _ hi => by rw [← hbt i, hi]; rfl) hv hx (by rw [← hbt v]; simp)
    omega
  · rw [hcu w]
    by_cases z : w = v
    · rw [if_pos z, z, pk_us]
    · rw [if_neg z, pk_un z]
      refine h3 w ?_ hws
      have := hbt w
      rw [hw, decide_eq_false z, Bool.or_false] at this
      exact this
theorem pf_s4 {B E C O L : fg_A} {n : Int32} {N s : Nat} (Hw : wfm B E C O n N) (hL : ∀ r, r < N → 0 < fI L r → onb O r = true) :
    ∀ (k i : Nat) (x : Int32) (V : fg_A), i ≤ N → N < i + k → sp_T B E C O N s L V x →
      ∃ y V', f_G_spreadByEachRule_4 B E C O n L k x (nI i) V = some (y, V') ∧ sp_T B E C O N s L V' y ∧ (∀ v, bt x v = true → bt y v = true) ∧
        ∀ r, i ≤ r → r < N → (onb O r = true → bt x (cl B r) = true → fI L r < fI C r → bt y (cl E r) = true) ∧ (bt x (cl E r) = true → 0 < fI L r → bt y (cl B r) = true) := by
  obtain ⟨hN, hn, hw⟩ := id Hw
  intro k
  induction k with
  | zero => intro i x V hi hk; omega
  | succ k ih =>
    intro i x V hi hk hT
    rw [f_G_spreadByEachRule_4]
    rcases Nat.lt_or_ge i N with q | q
    · obtain ⟨⟨hB, hB8⟩, ⟨hE, hE8⟩, -, -, -⟩ := hw i q
      have h90 : ix (nI i) 90 = true := ix_nI (by omega) (by decide)
      have hci : (nI i).toNatClampNeg = i := nI_clamp (by omega)
      have hxB : ix (nI (cl B i)) 28 = true := ix_nI hB8 (by decide)
      have hxE : ix (nI (cl E i)) 28 = true := ix_nI hE8 (by decide)
      have hcB : (nI (cl B i)).toNatClampNeg = cl B i := nI_clamp (by omega)
      have hcE : (nI (cl E i)).toNatClampNeg = cl E i := nI_clamp (by omega)
      have hlc : ∀ {a b : Int32}, (a ≤ b ↔ a.toInt ≤ b.toInt) := fun {a b} => Int32.le_iff_toInt_le
      have bitB : f_G_bit (nI (cl B i)) = some ((1 : Int32) <<< (nI (cl B i) &&& 31)) := rfl
      have bitE : f_G_bit (nI (cl E i)) = some ((1 : Int32) <<< (nI (cl E i) &&& 31)) := rfl
      -- nothing is found by rule i
      have go : ((onb O i = true → bt x (cl B i) = true → fI L i < fI C i → bt x (cl E i) = true) ∧ (bt x (cl E i) = true → 0 < fI L i → bt x (cl B i) = true)) →
          ∃ y V', f_G_spreadByEachRule_4 B E C O n L k x (nI (i + 1)) V = some (y, V') ∧ sp_T B E C O N s L V' y ∧ (∀ v, bt x v = true → bt y v = true) ∧
            ∀ r, i ≤ r → r < N → (onb O r = true → bt x (cl B r) = true → fI L r < fI C r → bt y (cl E r) = true) ∧ (bt x (cl E r) = true → 0 < fI L r → bt y (cl B r) = true) := fun hno => by
        obtain ⟨y, V', a1, a2, a3, a4⟩ := ih (i + 1) x V (by omega) (by omega) hT
        refine ⟨y, V', a1, a2, a3, fun r hr hrN => ?_⟩
        rcases Nat.lt_or_ge i r with w | w
        · exact a4 r (by omega) hrN
        · have e1 : r = i := by omega
          subst e1
          exact ⟨fun h1 h2 h3 => a3 _ (hno.1 h1 h2 h3), fun h1 h2 => a3 _ (hno.2 h1 h2)⟩
      -- a node is found by rule i
      have add : ∀ (v : Nat) (V2 : fg_A), sp_T B E C O N s L V2 (x ||| ((1 : Int32) <<< (nI v &&& 31))) → v < 28 → (onb O i = true → bt x (cl B i) = true → fI L i < fI C i → cl E i = v ∨ bt x (cl E i) = true) → (bt x (cl E i) = true → 0 < fI L i → cl B i = v ∨ bt x (cl B i) = true) →
          ∃ y V', f_G_spreadByEachRule_4 B E C O n L k (x ||| ((1 : Int32) <<< (nI v &&& 31))) (nI (i + 1)) V2 = some (y, V') ∧ sp_T B E C O N s L V' y ∧ (∀ v, bt x v = true → bt y v = true) ∧
            ∀ r, i ≤ r → r < N → (onb O r = true → bt x (cl B r) = true → fI L r < fI C r → bt y (cl E r) = true) ∧ (bt x (cl E r) = true → 0 < fI L r → bt y (cl B r) = true) := fun v V2 hT2 hv c1 c2 => by
        obtain ⟨y, V', a1, a2, a3, a4⟩ := ih (i + 1) _ V2 (by omega) (by omega) hT2
        have up : ∀ w, bt x w = true → bt y w = true := fun w hw => a3 w (by rw [b_or, hw]; rfl)
        have hyv : bt y v = true := a3 v (by rw [mb_or (by omega) (by omega)]; simp)
        refine ⟨y, V', a1, a2, up, fun r hr hrN => ?_⟩
        rcases Nat.lt_or_ge i r with w | w
        · obtain ⟨d1, d2⟩ := a4 r (by omega) hrN
          exact ⟨fun h1 h2 h3 => d1 h1 (by rw [b_or, h2]; rfl) h3, fun h1 h2 => d2 (by rw [b_or, h1]; rfl) h2⟩
        · have e1 : r = i := by omega
          subst e1
          refine ⟨fun h1 h2 h3 => ?_, fun h1 h2 => ?_⟩
          · rcases c1 h1 h2 h3 with z | z
            · rw [z]; exact hyv
            · exact up _ z
          · rcases c2 h1 h2 with z | z
            · rw [z]; exact hyv
            · exact up _ z
      rw [if_neg (show ¬ n ≤ nI i by rw [hn]; exact nI_ge q (by omega)), fg_og_t h90, fg_og_t h90, hci, hB, hE, fg_ob_s (pf_has (by omega)), fg_ob_s (pf_has (by omega)), nI_1]
      have p0 : ¬ (1 : Int32) = 0 := by decide
      by_cases hb : bt x (cl B i) = true
      · by_cases he : bt x (cl E i) = true
        · simp only [if_pos hb, if_pos he, if_neg p0]
          exact go ⟨fun _ _ _ => he, fun _ _ => hb⟩
        · have he2 : bt x (cl E i) = false := by simpa using he
          simp only [if_pos hb, if_neg he, if_neg p0, if_true]
          rw [fg_og_t h90]
          by_cases hO : O i = 0
          · rw [if_pos hO]
            exact go ⟨fun h => absurd hO (onb_ne h), fun h => absurd h he⟩
          · rw [if_neg hO, fg_og_t h90, fg_og_t h90]
            by_cases hLC : C i ≤ L i
            · rw [if_pos hLC]
              exact go ⟨fun _ _ h => absurd (hlc.mp hLC) (by unfold fI at h; omega), fun h => absurd h he⟩
            · rw [if_neg hLC, fg_ob_s bitE, fg_og_t hxE, hcE]
              have hlt : fI L i < fI C i := by rw [hlc] at hLC; unfold fI; omega
              exact add _ _ (sp_add Hw hT hE8 he2 q (onb_t hO) (Or.inl ⟨rfl, hb, hlt⟩)) hE8 (fun _ _ _ => Or.inl rfl) (fun h => absurd h he)
      · have hb2 : bt x (cl B i) = false := by simpa using hb
        by_cases he : bt x (cl E i) = true
        · simp only [if_neg hb, if_pos he, if_neg p0, if_true]
          rw [fg_og_t h90]
          by_cases hL0 : L i ≤ 0
          · rw [if_pos hL0]
            exact go ⟨fun _ h => absurd h hb, fun _ h => absurd (hlc.mp hL0) (by unfold fI at h; rw [Int32.toInt_zero]; omega)⟩
          · rw [if_neg hL0, fg_ob_s bitB, fg_og_t hxB, hcB]
            have hlt : 0 < fI L i := by rw [hlc, Int32.toInt_zero] at hL0; unfold fI; omega
            exact add _ _ (sp_add Hw hT hB8 hb2 q (hL i q hlt) (Or.inr ⟨rfl, he, hlt⟩)) hB8 (fun _ h => absurd h hb) (fun _ _ => Or.inl rfl)
        · simp only [if_neg hb, if_neg he, if_neg p0, if_true]
          exact go ⟨fun _ h => absurd h hb, fun h => absurd h he⟩
    · have e1 : i = N := by omega
      subst e1
      rw [if_pos (show n ≤ nI i by rw [hn]; exact nI_le (Nat.le_refl i) (by omega))]
      exact ⟨x, V, rfl, hT, fun _ h => h, fun r hr hrN => absurd hrN (by omega)⟩
theorem pf_s11 {B E C O L : fg_A} {n : Int32} {N s t : Nat} (Hw : wfm B E C O n N) (hL : ∀ r, r < N → 0 < fI L r → onb O r = true) (ht : t < 28) :
    ∀ (k j : Nat) (x y : Int32) (V : fg_A), j ≤ 28 → 28 < j + k → sp_T B E C O N s L V x → (x = y ∧ fl_clo N (cl B) (cl E) (fI C) (onb O) (fI L) (bt x) ∨ x ≠ y ∧ j + 1 ≤ ct (bt x) 28) →
      ∃ y' V', f_G_spread_11 B E C O n L (nI t) k x y (nI j) V = some (y', V') ∧ sp_T B E C O N s L V' y' ∧ (bt y' t = true ∨ fl_clo N (cl B) (cl E) (fI C) (onb O) (fI L) (bt y')) := by
  intro k
  induction k with
  | zero => intro j x y V hj hk; omega
  | succ k ih =>
    intro j x y V hj hk hT hc
    rw [f_G_spread_11]
    rcases hc with ⟨rfl, hcl⟩ | ⟨hne, hct⟩
    · by_cases q : (28 : Int32) ≤ nI j
      · rw [if_pos q]; exact ⟨x, V, rfl, hT, Or.inr hcl⟩
      · rw [if_neg q, if_pos rfl]; exact ⟨x, V, rfl, hT, Or.inr hcl⟩
    · have hj2 : j < 28 := by have := ct_le (p := bt x) 28; omega
      rw [if_neg (show ¬ (28 : Int32) ≤ nI j from nI_ge hj2 (by decide)), if_neg hne, fg_ob_s (pf_has (by omega))]
      by_cases h : bt x t = true
      · rw [if_pos h, if_neg (by decide)]
        exact ⟨x, V, rfl, hT, Or.inl h⟩
      · rw [if_neg h, if_pos rfl]
        obtain ⟨w, V', a1, a2, a3, a4⟩ := pf_s4 (s := s) Hw hL fu 0 x V (Nat.zero_le N) (by show N < 0 + 1000; have := Hw.1; omega) hT
        have g1 : f_G_spreadByEachRule B E C O n L V x = some (w, V') := by
          unfold f_G_spreadByEachRule
          rw [fg_ob_s (show f_G_spreadByEachRule_4 B E C O n L fu x 0 V = some (w, V') from a1)]
        rw [fg_ob_s g1, nI_1]
        dsimp only
        refine ih (j + 1) w x V' (by omega) (by omega) a2 ?_
        by_cases q : w = x
        · subst q
          exact Or.inl ⟨rfl, fun r hr => a4 r (Nat.zero_le r) hr⟩
        · refine Or.inr ⟨q, ?_⟩
          have : ∃ v, v < 28 ∧ bt x v = false ∧ bt w v = true := by
            apply Classical.byContradiction
            intro hno
            apply q
            refine mk_ext a2.1 hT.1 fun v hv => ?_
            cases h1 : bt x v with
            | true => exact a3 v h1
            | false =>
              cases h2 : bt w v with
              | false => rfl
              | true => exact (hno ⟨v, hv, h1, h2⟩).elim
          obtain ⟨v, v1, v2, v3⟩ := this
          have := ct_lt (p := bt x) (q := bt w) (fun i _ h => a3 i h) v1 v2 v3
          omega
theorem pf_spread {B E C O L : fg_A} {n : Int32} {N s t : Nat} (Hw : wfm B E C O n N) (hL : ∀ r, r < N → 0 < fI L r → onb O r = true) (hs : s < 28) (ht : t < 28) (V : fg_A) :
    ∃ y V', f_G_spread B E C O n L V (nI s) (nI t) = some (y, V') ∧ sp_T B E C O N s L V' y ∧ (bt y t = true ∨ fl_clo N (cl B) (cl E) (fI C) (onb O) (fI L) (bt y)) := by
  have hb : ∀ w, decide (w = s) = bt ((1 : Int32) <<< (nI s &&& 31)) w := fun w => by
    rcases Nat.lt_or_ge w 32 with z | z
    · rw [mb_one s (by omega) w z]
    · rw [b_big z, decide_eq_false (by omega)]
  have h1 : bt ((1 : Int32) <<< (nI s &&& 31)) s = true := by rw [← hb s]; simp
  have hct : 1 ≤ ct (bt ((1 : Int32) <<< (nI s &&& 31))) 28 := by
    have := ct_lt (p := fun _ => false) (q := bt ((1 : Int32) <<< (nI s &&& 31))) (fun _ _ h => (by cases h)) hs rfl h1
    omega
  have hT : sp_T B E C O N s L V ((1 : Int32) <<< (nI s &&& 31)) := by
    refine ⟨fun i hi => ?_, _, 1, tr_congr (tr_start (fI L) (cl V) hs) hb (fun _ _ _ => rfl), hct, fun v hv hvs => ?_⟩
    · rw [← hb i, decide_eq_false (by omega)]
    · rw [← hb v, decide_eq_true_eq] at hv
      exact absurd hv hvs
  obtain ⟨y, V', a1, a2, a3⟩ := pf_s11 (s := s) Hw hL ht fu 0 ((1 : Int32) <<< (nI s &&& 31)) 0 V (by omega) (by decide) hT (Or.inr ⟨fun q => (by rw [q, b_0] at h1; cases h1), by omega⟩)
  refine ⟨y, V', ?_, a2, a3⟩
  unfold f_G_spread
  rw [fg_ob_s (show f_G_bit (nI s) = some ((1 : Int32) <<< (nI s &&& 31)) from rfl), fg_ob_s (show f_G_spread_11 B E C O n L (nI t) fu ((1 : Int32) <<< (nI s &&& 31)) 0 0 V = some (y, V') from a1)]
end
section
/-! The class's pushes, and the near side. -/
/-- what a found node's rule is, in the class's numbers -/
theorem sp_node {B E C O L V : fg_A} {n : Int32} {N s v : Nat} {x : Int32} {rk : Nat → Nat} {K : Nat} (Hw : wfm B E C O n N) (hT : tr_tree N (cl B) (cl E) (fI C) (onb O) s (fI L) (bt x) (cl V) rk K) (hV : ∀ v, bt x v = true → v ≠ s → V v = nI (cl V v)) (hv : bt x v = true) (hvs : v ≠ s) :
    v < 28 ∧ cl V v < N ∧ V v = nI (cl V v) ∧ (E (cl V v) = nI v ↔ cl E (cl V v) = v) ∧ E (cl V v) = nI (cl E (cl V v)) ∧ B (cl V v) = nI (cl B (cl V v)) := by
  obtain ⟨h1, -⟩ := hT.2.1 v hv
  obtain ⟨h2, -⟩ := hT.2.2 v hv hvs
  obtain ⟨⟨hB, -⟩, ⟨hE, hE8⟩, -⟩ := Hw.2.2 _ h2
  refine ⟨h1, h2, hV v hv hvs, ?_, hE, hB⟩
  rw [hE]
  exact nI_eq (by omega) (by omega)
theorem pf_nodeBefore {B E C O L V : fg_A} {n : Int32} {N s v : Nat} {x : Int32} {rk : Nat → Nat} {K : Nat} (Hw : wfm B E C O n N) (hT : tr_tree N (cl B) (cl E) (fI C) (onb O) s (fI L) (bt x) (cl V) rk K) (hV : ∀ v, bt x v = true → v ≠ s → V v = nI (cl V v)) (hv : bt x v = true) (hvs : v ≠ s) :
    f_G_nodeBefore B E V (nI v) = some (nI (tr_prev (cl B) (cl E) (cl V) v)) := by
  obtain ⟨h1, h2, h3, h4, h5, h6⟩ := sp_node Hw hT hV hv hvs
  have hN := Hw.1
  have e0 : (nI v).toNatClampNeg = v := nI_clamp (by omega)
  have e1 : (nI (cl V v)).toNatClampNeg = cl V v := nI_clamp (by omega)
  have e2 : ix (nI (cl V v)) 90 = true := ix_nI (by omega) (by decide)
  unfold f_G_nodeBefore tr_prev
  rw [fg_og_t (ix_nI h1 (by decide)), e0, h3, fg_og_t e2, e1]
  by_cases q : cl E (cl V v) = v
  · rw [if_pos (h4.mpr q), if_pos q, fg_og_t e2, h6]
  · rw [if_neg (fun z => q (h4.mp z)), if_neg q, fg_og_t e2, h5]
theorem pf_roomInto {B E C O L V : fg_A} {n : Int32} {N s v : Nat} {x : Int32} {rk : Nat → Nat} {K : Nat} (Hw : wfm B E C O n N) (hT : tr_tree N (cl B) (cl E) (fI C) (onb O) s (fI L) (bt x) (cl V) rk K) (hV : ∀ v, bt x v = true → v ≠ s → V v = nI (cl V v)) (hbd : fl_bd N (fI C) (onb O) (fI L)) (hv : bt x v = true) (hvs : v ≠ s) :
    ∃ y, f_G_roomInto E C L V (nI v) = some y ∧ y.toInt = tr_room (cl E) (fI C) (fI L) (cl V) v := by
  obtain ⟨h1, h2, h3, h4, h5, h6⟩ := sp_node Hw hT hV hv hvs
  have hN := Hw.1
  have e0 : (nI v).toNatClampNeg = v := nI_clamp (by omega)
  have e1 : (nI (cl V v)).toNatClampNeg = cl V v := nI_clamp (by omega)
  have e2 : ix (nI (cl V v)) 90 = true := ix_nI (by omega) (by decide)
  obtain ⟨c0, c1, c2⟩ := Hw.ci h2
  obtain ⟨b1, b2⟩ := hbd _ h2
  have b3 : fI L (cl V v) ≤ 9 := by
    by_cases z : onb O (cl V v) = true
    · rw [if_pos z] at b2; omega
    · rw [if_neg z] at b2; omega
  unfold f_G_roomInto tr_room
  rw [fg_og_t (ix_nI h1 (by decide)), e0, h3, fg_og_t e2, e1]
  by_cases q : cl E (cl V v) = v
  · rw [if_pos (h4.mpr q), if_pos q, fg_og_t e2, fg_og_t e2]
    refine ⟨_, rfl, ?_⟩
    unfold fI at c1 c2 b1 b3 ⊢
    exact ti_sub (by omega) (by omega) (by omega) (by omega)
  · rw [if_neg (fun z => q (h4.mp z)), if_neg q, fg_og_t e2]
    exact ⟨_, rfl, rfl⟩
theorem pf_pushInto {B E C O L0 L V : fg_A} {n a : Int32} {N s v : Nat} {x : Int32} {rk : Nat → Nat} {K : Nat} (Hw : wfm B E C O n N) (hT : tr_tree N (cl B) (cl E) (fI C) (onb O) s (fI L0) (bt x) (cl V) rk K) (hV : ∀ v, bt x v = true → v ≠ s → V v = nI (cl V v)) (hv : bt x v = true) (hvs : v ≠ s)
    (ha : 0 ≤ a.toInt ∧ a.toInt ≤ 9) (hLb : -10000 ≤ fI L (cl V v) ∧ fI L (cl V v) ≤ 10000) :
    ∃ L', f_G_pushInto E L V (nI v) a = some L' ∧ fI L' = tr_put (cl E) (fI L) (cl V) v a.toInt := by
  obtain ⟨h1, h2, h3, h4, h5, h6⟩ := sp_node Hw hT hV hv hvs
  have hN := Hw.1
  have e0 : (nI v).toNatClampNeg = v := nI_clamp (by omega)
  have e1 : (nI (cl V v)).toNatClampNeg = cl V v := nI_clamp (by omega)
  have e2 : ix (nI (cl V v)) 90 = true := ix_nI (by omega) (by decide)
  unfold f_G_pushInto
  rw [fg_og_t (ix_nI h1 (by decide)), e0, h3, fg_og_t e2, fg_og_t e2, e1]
  have key : ∀ z : Int32, z.toInt = fI L (cl V v) + (if cl E (cl V v) = v then a.toInt else -a.toInt) → fI (upd L (cl V v) z) = tr_put (cl E) (fI L) (cl V) v a.toInt := fun z hz => by
    funext r
    unfold tr_put
    by_cases w : r = cl V v
    · rw [if_pos w, ← hz, w]
      show (upd L (cl V v) z (cl V v)).toInt = _
      rw [pk_us]
    · rw [if_neg w]
      show (upd L (cl V v) z r).toInt = _
      rw [pk_un w]; rfl
  by_cases q : cl E (cl V v) = v
  · rw [if_pos (h4.mpr q), fg_og_t e2]
    refine ⟨_, rfl, key _ ?_⟩
    rw [if_pos q]
    unfold fI at hLb ⊢
    exact ti_add (by omega) (by omega) (by omega) (by omega)
  · rw [if_neg (fun z => q (h4.mp z)), fg_og_t e2]
    refine ⟨_, rfl, key _ ?_⟩
    rw [if_neg q]
    have hn : (-a).toInt = -a.toInt := ti_neg (by omega) (by omega)
    unfold fI at hLb ⊢
    rw [ti_add (by omega) (by omega) (by rw [hn]; omega) (by rw [hn]; omega), hn]
theorem tr_ok_mono {b e : Nat → Nat} {c f : Nat → Int} {s : Nat} {vr : Nat → Nat} {a a' : Int} (h : a' ≤ a) : ∀ {k v : Nat}, tr_ok b e c s f vr a k v → tr_ok b e c s f vr a' k v
  | 0, _, _ => trivial
  | k + 1, v, hk => by
    rcases hk with hk | ⟨h1, h2⟩
    · exact Or.inl hk
    · exact Or.inr ⟨by omega, tr_ok_mono h h2⟩
theorem pf_pa9 {B E C O L V : fg_A} {n : Int32} {N s t : Nat} {x : Int32} {rk : Nat → Nat} {K : Nat} (Hw : wfm B E C O n N) (hs : s < 28) (hT : tr_tree N (cl B) (cl E) (fI C) (onb O) s (fI L) (bt x) (cl V) rk K) (hV : ∀ v, bt x v = true → v ≠ s → V v = nI (cl V v)) (hbd : fl_bd N (fI C) (onb O) (fI L)) (x2 : Int32) :
    ∀ (k i v : Nat) (a : Int32), bt x v = true → i + rk v < 28 → rk v < k → 1 ≤ a.toInt → a.toInt ≤ 9 →
      ∃ y, f_G_pushAlong_9 B E C L V (nI s) x2 k a (nI v) (nI i) = some y ∧ 1 ≤ y.toInt ∧ y.toInt ≤ a.toInt ∧ ∀ kk, tr_ok (cl B) (cl E) (fI C) s (fI L) (cl V) y.toInt kk v := by
  intro k
  induction k with
  | zero => intro i v a hv hi hk; omega
  | succ k ih =>
    intro i v a hv hi hk ha1 ha9
    rw [f_G_pushAlong_9, if_neg (show ¬ (28 : Int32) ≤ nI i from nI_ge (b := 28) (by omega) (by decide))]
    have hv8 := (hT.2.1 v hv).1
    by_cases q : v = s
    · rw [if_pos (by rw [q])]
      refine ⟨a, rfl, ha1, Int.le_refl _, fun kk => ?_⟩
      cases kk with
      | zero => trivial
      | succ kk => exact Or.inl q
    · rw [if_neg (fun z => q ((nI_eq (by omega) (by omega)).mp z))]
      obtain ⟨g1, g2, g3, g4, g5, g6⟩ := hT.2.2 v hv q
      obtain ⟨y, r1, r2⟩ := pf_roomInto Hw hT hV hbd hv q
      rw [fg_ob_s r1, fg_ob_s (pf_nodeBefore Hw hT hV hv q), nI_1]
      have hmin : ∃ w : Int32, (if y < a then y else a) = w ∧ 1 ≤ w.toInt ∧ w.toInt ≤ a.toInt ∧ w.toInt ≤ y.toInt := by
        by_cases z : y < a
        · have z2 := Int32.lt_iff_toInt_lt.mp z
          exact ⟨y, if_pos z, by omega, by omega, Int.le_refl _⟩
        · have z2 : ¬ y.toInt < a.toInt := fun w => z (Int32.lt_iff_toInt_lt.mpr w)
          exact ⟨a, if_neg z, ha1, Int.le_refl _, by omega⟩
      obtain ⟨w, w1, w2, w3, w4⟩ := hmin
      rw [w1]
      obtain ⟨y', c1, c2, c3, c4⟩ := ih (i + 1) (tr_prev (cl B) (cl E) (cl V) v) w g3 (by omega) (by omega) w2 (by omega)
      refine ⟨y', c1, c2, by omega, fun kk => ?_⟩
      cases kk with
      | zero => trivial
      | succ kk => exact Or.inr ⟨by omega, c4 kk⟩
theorem pf_pa53 {B E C O L0 V : fg_A} {n a : Int32} {N s : Nat} {x : Int32} {rk : Nat → Nat} {K : Nat} (Hw : wfm B E C O n N) (hs : s < 28) (hT : tr_tree N (cl B) (cl E) (fI C) (onb O) s (fI L0) (bt x) (cl V) rk K) (hV : ∀ v, bt x v = true → v ≠ s → V v = nI (cl V v)) (ha : 0 ≤ a.toInt ∧ a.toInt ≤ 9) :
    ∀ (kk k i v M : Nat) (L : fg_A), bt x v = true → rk v < kk → kk ≤ k → i + kk ≤ 28 → M + 9 * kk ≤ 5000 → (∀ r, r < N → -(M : Int) ≤ fI L r ∧ fI L r ≤ M) →
      ∃ L', f_G_pushAlong_53 B E V (nI s) a k (nI v) (nI i) L = some L' ∧ fI L' = tr_pu (cl B) (cl E) s (cl V) a.toInt kk (fI L) v := by
  intro kk
  induction kk with
  | zero => intro k i v M L hv hk; omega
  | succ kk ih =>
    intro k i v M L hv hk hkk hi hM hLb
    obtain ⟨k, rfl⟩ : ∃ j, k = j + 1 := ⟨k - 1, by omega⟩
    rw [f_G_pushAlong_53, if_neg (show ¬ (28 : Int32) ≤ nI i from nI_ge (b := 28) (by omega) (by decide))]
    have hv8 := (hT.2.1 v hv).1
    by_cases q : v = s
    · rw [if_pos (by rw [q])]
      refine ⟨L, rfl, ?_⟩
      show fI L = if v = s then fI L else _
      rw [if_pos q]
    · rw [if_neg (fun z => q ((nI_eq (by omega) (by omega)).mp z))]
      obtain ⟨g1, g2, g3, g4, g5, g6⟩ := hT.2.2 v hv q
      have hb := hLb _ g1
      obtain ⟨L', p1, p2⟩ := pf_pushInto (L := L) Hw hT hV hv q ha (by omega)
      rw [fg_ob_s p1, fg_ob_s (pf_nodeBefore Hw hT hV hv q), nI_1]
      obtain ⟨L2, c1, c2⟩ := ih k (i + 1) (tr_prev (cl B) (cl E) (cl V) v) (M + 9) L' g3 (by omega) (by omega) (by omega) (by omega) (fun r hr => by
        rw [p2]
        unfold tr_put
        have h1 := hLb r hr
        by_cases w : r = cl V v
        · rw [if_pos w]
          by_cases z : cl E (cl V v) = v
          · rw [if_pos z]; omega
          · rw [if_neg z]; omega
        · rw [if_neg w]; omega)
      refine ⟨L2, c1, ?_⟩
      rw [c2, p2]
      show _ = if v = s then fI L else _
      rw [if_neg q]
theorem fl_on {N : Nat} {c f : Nat → Int} {on : Nat → Bool} (h : fl_bd N c on f) : ∀ r, r < N → 0 < f r → on r = true := fun r hr hp => by
  have := (h r hr).2
  cases ho : on r with
  | true => rfl
  | false => rw [ho] at this; simp at this; omega
/-- one push: the flow's value grows by one or more -/
theorem pf_push {B E C O L V : fg_A} {n : Int32} {N s t : Nat} {x : Int32} {z : Int} (Hw : wfm B E C O n N) (hs : s < 28) (ht : t < 28) (hst : s ≠ t) (hT : sp_T B E C O N s L V x) (hx : bt x t = true) (hf : fl_flow N (cl B) (cl E) (fI C) (onb O) s t (fI L) z) :
    ∃ L' y, f_G_pushAlong B E C L V (nI s) (nI t) = some L' ∧ 1 ≤ y ∧ fl_flow N (cl B) (cl E) (fI C) (onb O) s t (fI L') (z + y) := by
  obtain ⟨h0, rk, K, h1, h2, h3⟩ := hT
  have hrt : rk t < 28 := by have := (h1.2.1 t hx).2; have := ct_le (p := bt x) 28; omega
  obtain ⟨y, a1, a2, a3, a4⟩ := pf_pa9 (t := t) Hw hs h1 h3 hf.1 (nI t) fu 0 t 9 hx (by omega) (by show rk t < 1000; omega) (by decide) (by decide)
  have h9 : (9 : Int32).toInt = 9 := by decide
  have hLb : ∀ r, r < N → -((9 : Nat) : Int) ≤ fI L r ∧ fI L r ≤ (9 : Nat) := fun r hr => by
    obtain ⟨b1, b2⟩ := hf.1 r hr
    obtain ⟨-, c1, c2⟩ := Hw.ci hr
    by_cases w : onb O r = true
    · rw [if_pos w] at b2; omega
    · rw [if_neg w] at b2; omega
  obtain ⟨L', p1, p2⟩ := pf_pa53 (a := y) Hw hs h1 h3 ⟨by omega, by omega⟩ 28 fu 0 t 9 L hx hrt (by decide) (by omega) (by omega) hLb
  refine ⟨L', y.toInt, ?_, a2, ?_⟩
  · unfold f_G_pushAlong
    rw [fg_ob_s (show f_G_pushAlong_9 B E C L V (nI s) (nI t) fu 9 (nI t) 0 = some y from a1), fg_ob_s (show f_G_pushAlong_53 B E V (nI s) y fu (nI t) 0 L = some L' from p1)]
  · rw [p2]
    exact tr_aug h1 (by omega) hst hx hrt (a4 28) hf
theorem tr_ok1 {N : Nat} {b e : Nat → Nat} {c f : Nat → Int} {on : Nat → Bool} {s : Nat} {R : Nat → Bool} {vr rk : Nat → Nat} {K : Nat} (h : tr_tree N b e c on s f R vr rk K) : ∀ (k v : Nat), R v = true → tr_ok b e c s f vr 1 k v
  | 0, _, _ => trivial
  | k + 1, v, hv => by
    by_cases q : v = s
    · exact Or.inl q
    · obtain ⟨-, -, h3, -, h5, -⟩ := h.2.2 v hv q
      exact Or.inr ⟨by omega, tr_ok1 h k _ h3⟩
theorem sm_bound {g : Nat → Int} {m : Int} : ∀ {n : Nat}, (∀ i, i < n → g i ≤ m) → sm g n ≤ n * m
  | 0, _ => by show (0 : Int) ≤ _; omega
  | n + 1, H => by
    show sm g n + g n ≤ _
    have h1 := sm_bound (fun i hi => H i (Nat.lt_succ_of_lt hi))
    have h2 := H n (Nat.lt_succ_self n)
    rw [Int.natCast_add, Int.add_mul]
    omega
/-- where a way is left for more, the value is below 810 -/
theorem fl_810 {B E C O : fg_A} {n : Int32} {N s t : Nat} {f : Nat → Int} {R : Nat → Bool} {vr rk : Nat → Nat} {K : Nat} {z : Int} (Hw : wfm B E C O n N) (hs : s < 28) (hst : s ≠ t) (hT : tr_tree N (cl B) (cl E) (fI C) (onb O) s f R vr rk K) (hx : R t = true) (hf : fl_flow N (cl B) (cl E) (fI C) (onb O) s t f z) : z < 810 := by
  have h1 := tr_aug hT (by omega) hst hx (Nat.lt_succ_self (rk t)) (tr_ok1 hT _ t hx) hf
  have h2 := fl_le (S := fun v => decide (v = s)) Hw.b28 Hw.e28 hs h1 (by simp) (by simpa using fun q => hst q.symm)
  have h3 : fl_cap N (cl B) (cl E) (fI C) (onb O) (fun v => decide (v = s)) ≤ N * 9 := sm_bound fun r hr => by
    obtain ⟨-, c1, c2⟩ := Hw.ci hr
    by_cases w : onb O r = true ∧ decide (cl B r = s) = true ∧ decide (cl E r = s) = false
    · rw [if_pos w]; omega
    · rw [if_neg w]; omega
  have h4 := Hw.1
  omega
theorem pf_ns33 {B E C O : fg_A} {n : Int32} {N s t : Nat} (Hw : wfm B E C O n N) (hs : s < 28) (ht : t < 28) (hst : s ≠ t) :
    ∀ (k j : Nat) (x : Int32) (L V : fg_A) (z : Int), j ≤ 810 → 810 < j + k → (j : Int) ≤ z → fl_flow N (cl B) (cl E) (fI C) (onb O) s t (fI L) z → sp_T B E C O N s L V x → (bt x t = true ∨ fl_clo N (cl B) (cl E) (fI C) (onb O) (fI L) (bt x)) →
      ∃ y L' V' z', f_G_nearSide_33 B E C O n (nI s) (nI t) k x (nI j) L V = some (y, L', V') ∧ fl_flow N (cl B) (cl E) (fI C) (onb O) s t (fI L') z' ∧ sp_T B E C O N s L' V' y ∧ bt y t = false ∧ fl_clo N (cl B) (cl E) (fI C) (onb O) (fI L') (bt y) := by
  intro k
  induction k with
  | zero => intro j x L V z hj hk; omega
  | succ k ih =>
    intro j x L V z hj hk hjz hf hT hc
    rw [f_G_nearSide_33]
    by_cases h : bt x t = true
    · have hz : z < 810 := by
        obtain ⟨-, rk, K, h1, -⟩ := hT
        exact fl_810 Hw hs hst h1 h hf
      rw [if_neg (show ¬ (810 : Int32) ≤ nI j from nI_ge (b := 810) (by omega) (by decide)), fg_ob_s (pf_has (by omega)), if_pos h, if_neg (by decide)]
      obtain ⟨L', y, p1, p2, p3⟩ := pf_push Hw hs ht hst hT h hf
      obtain ⟨x', V', q1, q2, q3⟩ := pf_spread (s := s) Hw (fl_on p3.1) hs ht V
      rw [fg_ob_s p1, fg_ob_s q1, nI_1]
      dsimp only
      exact ih (j + 1) x' L' V' (z + y) (by omega) (by omega) (by omega) p3 q2 q3
    · have h2 : bt x t = false := by simpa using h
      have hcl := hc.resolve_left h
      by_cases q : (810 : Int32) ≤ nI j
      · rw [if_pos q]; exact ⟨x, L, V, z, rfl, hf, hT, h2, hcl⟩
      · rw [if_neg q, fg_ob_s (pf_has (by omega)), if_neg h, if_pos rfl]
        exact ⟨x, L, V, z, rfl, hf, hT, h2, hcl⟩
theorem pf_zero {h : Nat → Int32 → fg_A → Option fg_A} {n : Int32} {N : Nat} (hn : n = nI N) (hN : N ≤ 90) (h0 : ∀ k x L, h (k + 1) x L = if n ≤ x then some L else fg_og (ix x 90) (h k (x + 1) (upd L x.toNatClampNeg 0))) :
    ∀ (k i : Nat) (L : fg_A), i ≤ N → N < i + k → (∀ x, x < i → L x = 0) → ∃ K, h k (nI i) L = some K ∧ ∀ x, x < N → K x = 0 := by
  intro k
  induction k with
  | zero => intro i L hi hk; omega
  | succ k ih =>
    intro i L hi hk hL
    rw [h0]
    rcases Nat.lt_or_ge i N with q | q
    · rw [if_neg (show ¬ n ≤ nI i by rw [hn]; exact nI_ge q (by omega)), fg_og_t (ix_nI (by omega) (by decide)), nI_1, nI_clamp (by omega)]
      exact ih (i + 1) _ (by omega) (by omega) (fun x hx => by
        by_cases w : x = i
        · rw [w]; exact pk_us
        · rw [pk_un w]; exact hL x (by omega))
    · rw [if_pos (show n ≤ nI i by rw [hn]; exact nI_le q (by omega))]
      exact ⟨L, rfl, fun x hx => hL x (by omega)⟩
theorem fl_zero {N s t : Nat} {b e : Nat → Nat} {c f : Nat → Int} {on : Nat → Bool} (hc : ∀ r, r < N → 0 ≤ c r) (hf : ∀ r, r < N → f r = 0) : fl_flow N b e c on s t f 0 := by
  refine ⟨fun r hr => ?_, fun v _ => ?_⟩
  · rw [hf r hr]
    have := hc r hr
    by_cases w : on r = true
    · rw [if_pos w]; omega
    · rw [if_neg w]; omega
  · have h1 : fl_net N b e f v = 0 := sm_zero fun r hr => by rw [hf r hr]; simp
    rw [h1]; simp
/-- the class's near side: the least set of a greatest flow -/
theorem pf_near {B E C O : fg_A} {n : Int32} {N s t : Nat} (Hw : wfm B E C O n N) (hs : s < 28) (ht : t < 28) (hst : s ≠ t) (L V : fg_A) :
    ∃ y L' V' f z, f_G_nearSide B E C O n L V (nI s) (nI t) = some (y, L', V') ∧ fl_flow N (cl B) (cl E) (fI C) (onb O) s t f z ∧ mk28 y ∧ bt y s = true ∧ bt y t = false ∧ fl_clo N (cl B) (cl E) (fI C) (onb O) f (bt y) ∧ fl_least s N (cl B) (cl E) (fI C) (onb O) f (bt y) := by
  obtain ⟨L1, a1, a2⟩ := pf_zero (h := f_G_nearSide_2 n (nI s) (nI t)) Hw.2.1 Hw.1 (fun _ _ _ => rfl) fu 0 L (Nat.zero_le N) (by show N < 0 + 1000; have := Hw.1; omega) (fun x hx => absurd hx (Nat.not_lt_zero x))
  have hf : fl_flow N (cl B) (cl E) (fI C) (onb O) s t (fI L1) 0 := fl_zero (fun r hr => by have := (Hw.ci hr).2.1; omega) (fun r hr => by unfold fI; rw [a2 r hr]; rfl)
  obtain ⟨x, V1, c1, c2, c3⟩ := pf_spread (s := s) Hw (fl_on hf.1) hs ht V
  obtain ⟨y, L', V', z', d1, d2, d3, d4, d5⟩ := pf_ns33 Hw hs ht hst fu 0 x L1 V1 0 (by omega) (by decide) (by omega) hf c2 c3
  refine ⟨y, L', V', fI L', z', ?_, d2, d3.1, ?_, d4, d5, ?_⟩
  · unfold f_G_nearSide
    rw [fg_ob_s (show f_G_nearSide_2 n (nI s) (nI t) fu 0 L = some L1 from a1), fg_ob_s c1]
    dsimp only
    rw [fg_ob_s (show f_G_nearSide_33 B E C O n (nI s) (nI t) fu x 0 L1 V1 = some (y, L', V') from d1)]
  · obtain ⟨-, rk, K, h1, -⟩ := d3
    exact h1.1
  · obtain ⟨-, rk, K, h1, -⟩ := d3
    exact tr_least h1
end
section
/-! The reference's flow. -/
theorem fg_og_tt {β : Type} {x : Option β} : fg_og true x = x := rfl
/-- the nodes that the reference has come to, and by which rule -/
def mR (V : fg_A) (v : Nat) : Bool := decide (v < 28) && !decide (cl V v = 0)
def mvr (V : fg_A) (v : Nat) : Nat := (cl V v - 2) / 2
theorem mR_t {V : fg_A} {v : Nat} : mR V v = true ↔ v < 28 ∧ cl V v ≠ 0 := by unfold mR; simp
def mT (B E C O : fg_A) (N s : Nat) (L V : fg_A) : Prop :=
  (∀ v, v < 28 → V v = nI (cl V v) ∧ cl V v ≤ 200) ∧ ∃ (rk : Nat → Nat) (K : Nat), tr_tree N (cl B) (cl E) (fI C) (onb O) s (fI L) (mR V) (mvr V) rk K ∧ K ≤ ct (mR V) 28 ∧
    ∀ v, mR V v = true → v ≠ s → (cl V v = 2 + 2 * mvr V v ∧ cl E (mvr V v) = v) ∨ (cl V v = 3 + 2 * mvr V v ∧ cl B (mvr V v) = v)
theorem cl_upd {V : fg_A} {v w x : Nat} (h : w < 2 ^ 31) : cl (upd V v (nI w)) x = if x = v then w else cl V x := by
  unfold cl
  by_cases z : x = v
  · rw [if_pos z, z, pk_us, nI_clamp h]
  · rw [if_neg z, pk_un z]
theorem mt_add {B E C O L V : fg_A} {n : Int32} {N s : Nat} (Hw : wfm B E C O n N) (h : mT B E C O N s L V) {v q w : Nat} (hv : v < 28) (hx : mR V v = false) (hq : q < N) (hon : onb O q = true)
    (hd : (w = 2 + 2 * q ∧ cl E q = v ∧ mR V (cl B q) = true ∧ fI L q < fI C q) ∨ (w = 3 + 2 * q ∧ cl B q = v ∧ mR V (cl E q) = true ∧ 0 < fI L q)) :
    mT B E C O N s L (upd V v (nI w)) ∧ ct (mR V) 28 < ct (mR (upd V v (nI w))) 28 := by
  obtain ⟨h0, rk, K, h1, h2, h3⟩ := h
  have hN := Hw.1
  have hw : w ≤ 200 ∧ w ≠ 0 ∧ (w - 2) / 2 = q := by rcases hd with ⟨rfl, -⟩ | ⟨rfl, -⟩ <;> omega
  have hc : ∀ x, cl (upd V v (nI w)) x = if x = v then w else cl V x := fun x => cl_upd (by omega)
  have hR : ∀ x, (mR V x || decide (x = v)) = mR (upd V v (nI w)) x := fun x => by
    unfold mR
    rw [hc x]
    by_cases z : x = v
    · rw [if_pos z, z, decide_eq_false hw.2.1, decide_eq_true hv]; simp
    · rw [if_neg z, decide_eq_false z]; simp
  have hvr : ∀ x, mvr (upd V v (nI w)) x = if x = v then q else mvr V x := fun x => by
    unfold mvr
    rw [hc x]
    by_cases z : x = v
    · rw [if_pos z, if_pos z]; exact hw.2.2
    · rw [if_neg z, if_neg z]
  have hct : ct (mR V) 28 < ct (mR (upd V v (nI w))) 28 := ct_lt (j := v) (fun i _ hi => by rw [← hR i, hi]; rfl) hv hx (by rw [← hR v]; simp)
  have hd' : (cl E q = v ∧ mR V (cl B q) = true ∧ fI L q < fI C q) ∨ (cl B q = v ∧ mR V (cl E q) = true ∧ 0 < fI L q) := by
    rcases hd with ⟨-, a⟩ | ⟨-, a⟩
    · exact Or.inl a
    · exact Or.inr a
  refine ⟨⟨fun x hx => ?_, _, K + 1, tr_congr (tr_add h1 hv hx hq hon (Hw.ne q hq) hd') hR (fun x _ _ => (hvr x).symm), by omega, fun x hxR hxs => ?_⟩, hct⟩
  · rw [hc x]
    by_cases z : x = v
    · rw [if_pos z, z, pk_us]; exact ⟨rfl, hw.1⟩
    · rw [if_neg z, pk_un z]; exact h0 x hx
  · rw [hc x, hvr x]
    by_cases z : x = v
    · rw [if_pos z, if_pos z]
      rcases hd with ⟨a1, a2, -⟩ | ⟨a1, a2, -⟩
      · exact Or.inl ⟨a1, by rw [a2, z]⟩
      · exact Or.inr ⟨a1, by rw [a2, z]⟩
    · rw [if_neg z, if_neg z]
      refine h3 x ?_ hxs
      have := hR x
      rw [hxR, decide_eq_false z, Bool.or_false] at this
      exact this
/-- rule r adds no node -/
def mN (B E C O L V : fg_A) (r : Nat) : Prop := (onb O r = true → mR V (cl B r) = true → fI L r < fI C r → mR V (cl E r) = true) ∧ (mR V (cl E r) = true → 0 < fI L r → mR V (cl B r) = true)
theorem pf_ms38 {B E C O L : fg_A} {n : Int32} {N s : Nat} (Hw : wfm B E C O n N) (hL : ∀ r, r < N → 0 < fI L r → onb O r = true) :
    ∀ (k i : Nat) (g : Int32) (V : fg_A), i ≤ N → N < i + k → mT B E C O N s L V →
      ∃ g' V', f_M_spread_38 n B E C O L k g (nI i) V = some (g', V') ∧ mT B E C O N s L V' ∧ ((g' = g ∧ V' = V ∧ ∀ r, i ≤ r → r < N → mN B E C O L V r) ∨ (g' = 1 ∧ ct (mR V) 28 < ct (mR V') 28)) := by
  obtain ⟨hN, hn, hw⟩ := id Hw
  intro k
  induction k with
  | zero => intro i g V hi hk; omega
  | succ k ih =>
    intro i g V hi hk hT
    rw [f_M_spread_38]
    rcases Nat.lt_or_ge i N with q | q
    · obtain ⟨⟨hB, hB8⟩, ⟨hE, hE8⟩, hne, -, -⟩ := hw i q
      obtain ⟨hVb, hVb2⟩ := hT.1 _ hB8
      obtain ⟨hVe, hVe2⟩ := hT.1 _ hE8
      have h90 : ix (nI i) 90 = true := ix_nI (by omega) (by decide)
      have hci : (nI i).toNatClampNeg = i := nI_clamp (by omega)
      have hcB : (B i).toNatClampNeg = cl B i := rfl
      have hcE : (E i).toNatClampNeg = cl E i := rfl
      have hxB : ix (B i) 28 = true := by rw [hB]; exact ix_nI hB8 (by decide)
      have hxE : ix (E i) 28 = true := by rw [hE]; exact ix_nI hE8 (by decide)
      have hlc : ∀ {a b : Int32}, (a ≤ b ↔ a.toInt ≤ b.toInt) := fun {a b} => Int32.le_iff_toInt_le
      have le0 : ∀ {v}, v < 28 → (V v ≤ 0 ↔ cl V v = 0) := fun {v} hv => by
        rw [(hT.1 v hv).1, show (0 : Int32) = nI 0 from rfl, nI_leI (by have := (hT.1 v hv).2; omega) (by decide)]
        omega
      have eq0 : ∀ {v}, v < 28 → (V v = 0 ↔ cl V v = 0) := fun {v} hv => by
        rw [← le0 hv]
        constructor
        · intro z; rw [z]; decide
        · intro z
          have h1 := (le0 hv).mp z
          rw [(hT.1 v hv).1, h1]; rfl
      have w2 : (2 : Int32) + 2 * nI i = nI (2 + 2 * i) := by rw [show (2 : Int32) = nI 2 from rfl, pk_mul, nI_add]
      have w3 : (3 : Int32) + 2 * nI i = nI (3 + 2 * i) := by rw [show (3 : Int32) = nI 3 from rfl, show (2 : Int32) = nI 2 from rfl, pk_mul, nI_add]
      have go : mN B E C O L V i → ∃ g' V', f_M_spread_38 n B E C O L k g (nI (i + 1)) V = some (g', V') ∧ mT B E C O N s L V' ∧ ((g' = g ∧ V' = V ∧ ∀ r, i ≤ r → r < N → mN B E C O L V r) ∨ (g' = 1 ∧ ct (mR V) 28 < ct (mR V') 28)) := fun hno => by
        obtain ⟨g', V', a1, a2, a3⟩ := ih (i + 1) g V (by omega) (by omega) hT
        refine ⟨g', V', a1, a2, ?_⟩
        rcases a3 with ⟨c1, c2, c3⟩ | a3
        · refine Or.inl ⟨c1, c2, fun r hr hrN => ?_⟩
          rcases Nat.lt_or_ge i r with w | w
          · exact c3 r (by omega) hrN
          · have e1 : r = i := by omega
            rw [e1]; exact hno
        · exact Or.inr a3
      have add : ∀ V2, mT B E C O N s L V2 → ct (mR V) 28 < ct (mR V2) 28 → ∃ g' V', f_M_spread_38 n B E C O L k 1 (nI (i + 1)) V2 = some (g', V') ∧ mT B E C O N s L V' ∧ ((g' = g ∧ V' = V ∧ ∀ r, i ≤ r → r < N → mN B E C O L V r) ∨ (g' = 1 ∧ ct (mR V) 28 < ct (mR V') 28)) := fun V2 hT2 hct => by
        obtain ⟨g', V', a1, a2, a3⟩ := ih (i + 1) 1 V2 (by omega) (by omega) hT2
        refine ⟨g', V', a1, a2, Or.inr ?_⟩
        rcases a3 with ⟨c1, c2, -⟩ | ⟨c1, c2⟩
        · rw [c2]; exact ⟨c1, hct⟩
        · exact ⟨c1, by omega⟩
      have rt : ∀ {v}, v < 28 → (mR V v = true ↔ cl V v ≠ 0) := fun {v} hv => by rw [mR_t]; exact ⟨fun z => z.2, fun z => ⟨hv, z⟩⟩
      rw [if_neg (show ¬ n ≤ nI i by rw [hn]; exact nI_ge q (by omega))]
      simp only [h90, hci, hxB, hxE, hcB, hcE, nI_1, fg_og_tt, w2, w3]
      by_cases hO : O i = 0
      · simp only [if_pos hO]
        exact go ⟨fun h => absurd hO (onb_ne h), fun _ h => absurd hO (onb_ne (hL i q h))⟩
      · simp only [if_neg hO]
        by_cases hb : cl V (cl B i) = 0
        · have hb1 : V (cl B i) ≤ 0 := (le0 hB8).mpr hb
          have hb2 : V (cl B i) = 0 := (eq0 hB8).mpr hb
          simp only [if_pos hb1, if_pos hb2]
          by_cases he : cl V (cl E i) = 0
          · simp only [if_pos ((le0 hE8).mpr he)]
            exact go ⟨fun _ h => absurd hb ((rt hB8).mp h), fun h => absurd he ((rt hE8).mp h)⟩
          · simp only [if_neg (fun z => he ((le0 hE8).mp z))]
            by_cases hl : L i ≤ 0
            · simp only [if_pos hl]
              exact go ⟨fun _ h => absurd hb ((rt hB8).mp h), fun _ h => absurd (hlc.mp hl) (by unfold fI at h; rw [Int32.toInt_zero]; omega)⟩
            · simp only [if_neg hl]
              have hlt : 0 < fI L i := by rw [hlc, Int32.toInt_zero] at hl; unfold fI; omega
              obtain ⟨m1, m2⟩ := mt_add Hw hT (w := 3 + 2 * i) hB8 (by cases z : mR V (cl B i) with | false => rfl | true => exact absurd hb ((rt hB8).mp z)) q (onb_t hO) (Or.inr ⟨rfl, rfl, (rt hE8).mpr he, hlt⟩)
              exact add _ m1 m2
        · have hb1 : ¬ V (cl B i) ≤ 0 := fun z => hb ((le0 hB8).mp z)
          have hb2 : ¬ V (cl B i) = 0 := fun z => hb ((eq0 hB8).mp z)
          simp only [if_neg hb1, if_neg hb2]
          by_cases he : cl V (cl E i) = 0
          · have he1 : V (cl E i) ≤ 0 := (le0 hE8).mpr he
            have he2 : V (cl E i) = 0 := (eq0 hE8).mpr he
            simp only [if_pos he1, if_pos he2]
            by_cases hl : C i ≤ L i
            · simp only [if_pos hl]
              exact go ⟨fun _ _ h => absurd (hlc.mp hl) (by unfold fI at h; omega), fun h => absurd he ((rt hE8).mp h)⟩
            · simp only [if_neg hl]
              have hlt : fI L i < fI C i := by rw [hlc] at hl; unfold fI; omega
              have u1 : ¬ upd V (cl E i) (nI (2 + 2 * i)) (cl E i) ≤ 0 := by rw [pk_us]; exact nI_nle (by omega) (by omega)
              have u2 : ¬ upd V (cl E i) (nI (2 + 2 * i)) (cl B i) = 0 := by rw [pk_un hne]; exact hb2
              simp only [if_neg u1, if_neg u2]
              obtain ⟨m1, m2⟩ := mt_add Hw hT (w := 2 + 2 * i) hE8 (by cases z : mR V (cl E i) with | false => rfl | true => exact absurd he ((rt hE8).mp z)) q (onb_t hO) (Or.inl ⟨rfl, rfl, (rt hB8).mpr hb, hlt⟩)
              exact add _ m1 m2
          · have he1 : ¬ V (cl E i) ≤ 0 := fun z => he ((le0 hE8).mp z)
            have he2 : ¬ V (cl E i) = 0 := fun z => he ((eq0 hE8).mp z)
            simp only [if_neg he1, if_neg he2]
            exact go ⟨fun _ _ _ => (rt hE8).mpr he, fun _ _ => (rt hB8).mpr hb⟩
    · have e1 : i = N := by omega
      subst e1
      rw [if_pos (show n ≤ nI i by rw [hn]; exact nI_le (Nat.le_refl i) (by omega))]
      exact ⟨g, V, rfl, hT, Or.inl ⟨rfl, rfl, fun r hr hrN => absurd hrN (by omega)⟩⟩
theorem pf_ms30 {B E C O L : fg_A} {n : Int32} {N s : Nat} (Hw : wfm B E C O n N) (hL : ∀ r, r < N → 0 < fI L r → onb O r = true) :
    ∀ (k : Nat) (g : Int32) (V : fg_A), mT B E C O N s L V → (g = 0 ∧ fl_clo N (cl B) (cl E) (fI C) (onb O) (fI L) (mR V) ∧ 28 < ct (mR V) 28 + k ∨ g = 1 ∧ 29 < ct (mR V) 28 + k) →
      ∃ V', f_M_spread_30 n B E C O L k g V = some V' ∧ mT B E C O N s L V' ∧ fl_clo N (cl B) (cl E) (fI C) (onb O) (fI L) (mR V') := by
  intro k
  induction k with
  | zero =>
    intro g V hT hg
    have := ct_le (p := mR V) 28
    rcases hg with ⟨-, -, h⟩ | ⟨-, h⟩ <;> omega
  | succ k ih =>
    intro g V hT hg
    rw [f_M_spread_30]
    rcases hg with ⟨rfl, hc, -⟩ | ⟨rfl, hk⟩
    · rw [if_pos rfl]; exact ⟨V, rfl, hT, hc⟩
    · rw [if_neg (by decide)]
      obtain ⟨g', V', a1, a2, a3⟩ := pf_ms38 (s := s) Hw hL fu 0 0 V (Nat.zero_le N) (by show N < 0 + 1000; have := Hw.1; omega) hT
      rw [fg_ob_s (show f_M_spread_38 n B E C O L fu 0 0 V = some (g', V') from a1)]
      dsimp only
      refine ih g' V' a2 ?_
      rcases a3 with ⟨c1, c2, c3⟩ | ⟨c1, c2⟩
      · subst c2
        exact Or.inl ⟨c1, fun r hr => c3 r (Nat.zero_le r) hr, by omega⟩
      · exact Or.inr ⟨c1, by omega⟩
theorem pf_mspread {B E C O L : fg_A} {n : Int32} {N s : Nat} (Hw : wfm B E C O n N) (hL : ∀ r, r < N → 0 < fI L r → onb O r = true) (hs : s < 28) (V : fg_A) :
    ∃ V', f_M_spread n B E C O L V (nI s) = some V' ∧ mT B E C O N s L V' ∧ fl_clo N (cl B) (cl E) (fI C) (onb O) (fI L) (mR V') := by
  obtain ⟨V1, a1, a2⟩ := pf_fill (h := f_M_spread_2 (nI s)) (z := 0) (fun _ _ _ => rfl) fu 0 V (by omega) (by decide) (fun x hx => absurd hx (Nat.not_lt_zero x))
  have hc : ∀ x, cl (upd V1 s (nI 1)) x = if x = s then 1 else cl V1 x := fun x => cl_upd (by decide)
  have h0 : ∀ x, x < 28 → cl V1 x = 0 := fun x hx => by unfold cl; rw [a2 x hx]; rfl
  have hR : ∀ x, decide (x = s) = mR (upd V1 s (nI 1)) x := fun x => by
    unfold mR
    rw [hc x]
    by_cases z : x = s
    · rw [if_pos z, z, decide_eq_true hs]; simp
    · rw [if_neg z, decide_eq_false z]
      by_cases w : x < 28
      · rw [h0 x w]; simp
      · rw [decide_eq_false w]; rfl
  have hct : 1 ≤ ct (mR (upd V1 s (nI 1))) 28 := by
    have := ct_lt (p := fun _ => false) (q := mR (upd V1 s (nI 1))) (fun _ _ h => (by cases h)) hs rfl (by rw [← hR s]; simp)
    omega
  have hT : mT B E C O N s L (upd V1 s (nI 1)) := by
    refine ⟨fun x hx => ?_, _, 1, tr_congr (tr_start (fI L) (mvr (upd V1 s (nI 1))) hs) hR (fun _ _ _ => rfl), hct, fun x hx hxs => ?_⟩
    · rw [hc x]
      by_cases z : x = s
      · rw [if_pos z, z, pk_us]; exact ⟨rfl, by omega⟩
      · rw [if_neg z, pk_un z, a2 x hx, h0 x hx]; exact ⟨rfl, by omega⟩
    · rw [← hR x, decide_eq_true_eq] at hx
      exact absurd hx hxs
  obtain ⟨V', c1, c2, c3⟩ := pf_ms30 (s := s) Hw hL fu 1 _ hT (Or.inr ⟨rfl, by show 29 < _ + 1000; omega⟩)
  refine ⟨V', ?_, c2, c3⟩
  unfold f_M_spread
  rw [fg_ob_s (show f_M_spread_2 (nI s) fu 0 V = some V1 from a1), fg_og_t (ix_nI hs (by decide)), nI_clamp (by omega), fg_ob_s (show f_M_spread_30 n B E C O L fu 1 (upd V1 s 1) = some V' from c1)]
theorem pf_mp2 {B E C O L0 V : fg_A} {n : Int32} {N s : Nat} {rk : Nat → Nat} {K : Nat} (Hw : wfm B E C O n N) (hs : s < 28) (hv0 : ∀ v, v < 28 → V v = nI (cl V v) ∧ cl V v ≤ 200) (hT : tr_tree N (cl B) (cl E) (fI C) (onb O) s (fI L0) (mR V) (mvr V) rk K)
    (hV : ∀ v, mR V v = true → v ≠ s → (cl V v = 2 + 2 * mvr V v ∧ cl E (mvr V v) = v) ∨ (cl V v = 3 + 2 * mvr V v ∧ cl B (mvr V v) = v)) :
    ∀ (kk k v M : Nat) (L : fg_A), mR V v = true → rk v < kk → kk ≤ k → M + kk ≤ 5000 → (∀ r, r < N → -(M : Int) ≤ fI L r ∧ fI L r ≤ M) →
      ∃ L', f_M_push_2 B E V (nI s) k (nI v) L = some L' ∧ fI L' = tr_pu (cl B) (cl E) s (mvr V) 1 kk (fI L) v := by
  intro kk
  induction kk with
  | zero => intro k v M L hv hk; omega
  | succ kk ih =>
    intro k v M L hv hk hkk hM hLb
    obtain ⟨k, rfl⟩ : ∃ j, k = j + 1 := ⟨k - 1, by omega⟩
    have hv8 := (hT.2.1 v hv).1
    rw [f_M_push_2]
    by_cases q : v = s
    · rw [if_pos (by rw [q])]
      refine ⟨L, rfl, ?_⟩
      show fI L = if v = s then fI L else _
      rw [if_pos q]
    · rw [if_neg (fun z => q ((nI_eq (by omega) (by omega)).mp z))]
      obtain ⟨g1, g2, g3, g4, g5, g6⟩ := hT.2.2 v hv q
      have hN := Hw.1
      obtain ⟨⟨hB, hB8⟩, ⟨hE, hE8⟩, hne, -, -⟩ := Hw.2.2 _ g1
      have hb := hLb _ g1
      obtain ⟨e1, e2⟩ := hv0 v hv8
      have e0 : (nI v).toNatClampNeg = v := nI_clamp (by omega)
      have hge : 2 ≤ cl V v := by rcases hV v hv q with ⟨a, -⟩ | ⟨a, -⟩ <;> omega
      have hr : (V v - 2) / 2 = nI (mvr V v) := by
        rw [e1, show (2 : Int32) = nI 2 from rfl, pk_sub hge, pk_div (by omega) (by decide) (by decide)]; rfl
      have hm : V v - V v / 2 * 2 = nI (cl V v % 2) := by
        rw [e1, show (2 : Int32) = nI 2 from rfl, pk_rem (by omega) (by decide) (by decide)]
      have hcr : (nI (mvr V v)).toNatClampNeg = mvr V v := nI_clamp (by omega)
      have h90 : ix (nI (mvr V v)) 90 = true := ix_nI (by omega) (by decide)
      have key : ∀ (z : Int32) (L' : fg_A), L' = upd L (mvr V v) z → z.toInt = fI L (mvr V v) + (if cl E (mvr V v) = v then 1 else -1) → fI L' = tr_put (cl E) (fI L) (mvr V) v 1 := fun z L' hL' hz => by
        subst hL'
        funext r
        unfold tr_put
        by_cases w : r = mvr V v
        · rw [if_pos w, ← hz, w]
          show (upd L (mvr V v) z (mvr V v)).toInt = _
          rw [pk_us]
        · rw [if_neg w]
          show (upd L (mvr V v) z r).toInt = _
          rw [pk_un w]; rfl
      have cont : ∀ L', fI L' = tr_put (cl E) (fI L) (mvr V) v 1 → ∃ L2, f_M_push_2 B E V (nI s) k (nI (tr_prev (cl B) (cl E) (mvr V) v)) L' = some L2 ∧ fI L2 = tr_pu (cl B) (cl E) s (mvr V) 1 (kk + 1) (fI L) v := fun L' p2 => by
        obtain ⟨L2, c1, c2⟩ := ih k (tr_prev (cl B) (cl E) (mvr V) v) (M + 1) L' g3 (by omega) (by omega) (by omega) (fun r hr => by
          rw [p2]
          unfold tr_put
          have h1 := hLb r hr
          by_cases w : r = mvr V v
          · rw [if_pos w]
            by_cases z : cl E (mvr V v) = v
            · rw [if_pos z]; omega
            · rw [if_neg z]; omega
          · rw [if_neg w]; omega)
        refine ⟨L2, c1, ?_⟩
        rw [c2, p2]
        show _ = if v = s then fI L else _
        rw [if_neg q]
      simp only [e0, ix_nI hv8 (show 28 < 2 ^ 31 by decide), fg_og_tt, hr, hm, h90, hcr]
      have t1 : (1 : Int32).toInt = 1 := by decide
      rcases hV v hv q with ⟨a1, a2⟩ | ⟨a1, a2⟩
      · have hod : ¬ nI (cl V v % 2) = 1 := by
          have : cl V v % 2 = 0 := by omega
          rw [this]; decide
        rw [if_neg hod, hB]
        have hp : cl B (mvr V v) = tr_prev (cl B) (cl E) (mvr V) v := by unfold tr_prev; rw [if_pos a2]
        rw [hp]
        refine cont _ (key _ _ rfl ?_)
        rw [if_pos a2]
        unfold fI at hb ⊢
        rw [ti_add (by omega) (by omega) (by rw [t1]; omega) (by rw [t1]; omega), t1]
      · have hod : nI (cl V v % 2) = 1 := by
          have : cl V v % 2 = 1 := by omega
          rw [this]; decide
        have hne2 : ¬ cl E (mvr V v) = v := fun z => hne (a2.trans z.symm)
        rw [if_pos hod, hE]
        have hp : cl E (mvr V v) = tr_prev (cl B) (cl E) (mvr V) v := by unfold tr_prev; rw [if_neg hne2]
        rw [hp]
        refine cont _ (key _ _ rfl ?_)
        rw [if_neg hne2]
        unfold fI at hb ⊢
        rw [ti_sub (by omega) (by omega) (by rw [t1]; omega) (by rw [t1]; omega), t1]; omega
theorem pf_mpush {B E C O L V : fg_A} {n : Int32} {N s t : Nat} {z : Int} (Hw : wfm B E C O n N) (hs : s < 28) (hst : s ≠ t) (hT : mT B E C O N s L V) (hx : mR V t = true) (hf : fl_flow N (cl B) (cl E) (fI C) (onb O) s t (fI L) z) :
    ∃ L', f_M_push B E L V (nI s) (nI t) = some L' ∧ fl_flow N (cl B) (cl E) (fI C) (onb O) s t (fI L') (z + 1) := by
  obtain ⟨h0, rk, K, h1, h2, h3⟩ := hT
  have hrt : rk t < 28 := by have := (h1.2.1 t hx).2; have := ct_le (p := mR V) 28; omega
  have hLb : ∀ r, r < N → -((9 : Nat) : Int) ≤ fI L r ∧ fI L r ≤ (9 : Nat) := fun r hr => by
    obtain ⟨b1, b2⟩ := hf.1 r hr
    obtain ⟨-, c1, c2⟩ := Hw.ci hr
    by_cases w : onb O r = true
    · rw [if_pos w] at b2; omega
    · rw [if_neg w] at b2; omega
  obtain ⟨L', p1, p2⟩ := pf_mp2 Hw hs h0 h1 h3 28 fu t 9 L hx hrt (by decide) (by omega) hLb
  refine ⟨L', ?_, ?_⟩
  · unfold f_M_push
    rw [fg_ob_s (show f_M_push_2 B E V (nI s) fu (nI t) L = some L' from p1)]
  · rw [p2]
    exact tr_aug h1 (by omega) hst hx hrt (tr_ok1 h1 28 t hx) hf
theorem pf_mf30 {B E C O : fg_A} {n : Int32} {N s t : Nat} (Hw : wfm B E C O n N) (hs : s < 28) (ht : t < 28) (hst : s ≠ t) :
    ∀ (k j : Nat) (L V : fg_A), 810 < j + k → j ≤ 810 → fl_flow N (cl B) (cl E) (fI C) (onb O) s t (fI L) j → mT B E C O N s L V → fl_clo N (cl B) (cl E) (fI C) (onb O) (fI L) (mR V) →
      ∃ j' L' V', f_M_flow_30 n B E C O (nI s) (nI t) k (nI j) L V = some (nI j', L', V') ∧ j' ≤ 810 ∧ fl_flow N (cl B) (cl E) (fI C) (onb O) s t (fI L') j' ∧ mT B E C O N s L' V' ∧ mR V' t = false ∧ fl_clo N (cl B) (cl E) (fI C) (onb O) (fI L') (mR V') := by
  intro k
  induction k with
  | zero => intro j L V hj hk; omega
  | succ k ih =>
    intro j L V hj hk hf hT hc
    obtain ⟨e1, e2⟩ := hT.1 t ht
    rw [f_M_flow_30, fg_og_t (ix_nI ht (by decide)), nI_clamp (by omega), nI_1]
    by_cases h : mR V t = true
    · have hz : (j : Int) < 810 := by
        obtain ⟨-, rk, K, h1, -⟩ := hT
        exact fl_810 Hw hs hst h1 h hf
      have hcl : cl V t ≠ 0 := (mR_t.mp h).2
      rw [if_neg (show ¬ V t ≤ 0 by rw [e1]; exact nI_nle (by omega) (by omega))]
      obtain ⟨L', p1, p2⟩ := pf_mpush Hw hs hst hT h hf
      obtain ⟨V', q1, q2, q3⟩ := pf_mspread (s := s) Hw (fl_on p2.1) hs V
      rw [fg_ob_s p1, fg_ob_s q1]
      exact ih (j + 1) L' V' (by omega) (by omega) (by rw [Int.natCast_add]; exact p2) q2 q3
    · have h2 : mR V t = false := by simpa using h
      have hcl : cl V t = 0 := by
        apply Classical.byContradiction
        intro z
        exact h (mR_t.mpr ⟨ht, z⟩)
      rw [if_pos (show V t ≤ 0 by rw [e1, hcl]; decide)]
      exact ⟨j, L, V, rfl, hk, hf, hT, h2, hc⟩
/-- the reference's flow -/
theorem pf_mflow {B E C O : fg_A} {n : Int32} {N s t : Nat} (Hw : wfm B E C O n N) (hs : s < 28) (ht : t < 28) (hst : s ≠ t) (L V : fg_A) :
    ∃ j L' V', f_M_flow n B E C O L V (nI s) (nI t) = some (nI j, L', V') ∧ j ≤ 810 ∧ fl_flow N (cl B) (cl E) (fI C) (onb O) s t (fI L') j ∧ (∀ v, v < 28 → V' v = nI (cl V' v) ∧ cl V' v ≤ 200) ∧ mR V' s = true ∧ mR V' t = false ∧ fl_clo N (cl B) (cl E) (fI C) (onb O) (fI L') (mR V') ∧ fl_least s N (cl B) (cl E) (fI C) (onb O) (fI L') (mR V') := by
  obtain ⟨L1, a1, a2⟩ := pf_zero (h := f_M_flow_2 n (nI s) (nI t)) Hw.2.1 Hw.1 (fun _ _ _ => rfl) fu 0 L (Nat.zero_le N) (by show N < 0 + 1000; have := Hw.1; omega) (fun x hx => absurd hx (Nat.not_lt_zero x))
  have hf : fl_flow N (cl B) (cl E) (fI C) (onb O) s t (fI L1) 0 := fl_zero (fun r hr => by have := (Hw.ci hr).2.1; omega) (fun r hr => by unfold fI; rw [a2 r hr]; rfl)
  obtain ⟨V1, c1, c2, c3⟩ := pf_mspread (s := s) Hw (fl_on hf.1) hs V
  obtain ⟨j, L', V', d1, d2, d3, d4, d5, d6⟩ := pf_mf30 Hw hs ht hst fu 0 L1 V1 (by decide) (by omega) hf c2 c3
  obtain ⟨k1, rk, K, k2, -⟩ := id d4
  refine ⟨j, L', V', ?_, d2, d3, k1, k2.1, d5, d6, tr_least k2⟩
  unfold f_M_flow
  rw [fg_ob_s (show f_M_flow_2 n (nI s) (nI t) fu 0 L = some L1 from a1), fg_ob_s c1, fg_ob_s (show f_M_flow_30 n B E C O (nI s) (nI t) fu 0 L1 V1 = some (nI j, L', V') from d1)]
end
section
/-! Cuts: both are alike. -/
def lvb (B E O : fg_A) (S : Nat → Bool) (r : Nat) : Bool := onb O r && S (cl B r) && !S (cl E r)
theorem lvb_t {B E O : fg_A} {S : Nat → Bool} {r : Nat} : lvb B E O S r = true ↔ (¬ O r = 0 ∧ S (cl B r) = true ∧ S (cl E r) = false) := by
  unfold lvb onb
  simp [Bool.and_eq_true, and_assoc]
theorem pf_leaves {B E C O : fg_A} {n y : Int32} {N r : Nat} (Hw : wfm B E C O n N) (hr : r < N) : f_G_leaves B E O (nI r) y = some (if lvb B E O (bt y) r = true then 1 else 0) := by
  have hN := Hw.1
  obtain ⟨⟨hB, hB8⟩, ⟨hE, hE8⟩, -⟩ := Hw.2.2 r hr
  have h90 : ix (nI r) 90 = true := ix_nI (by omega) (by decide)
  have hci : (nI r).toNatClampNeg = r := nI_clamp (by omega)
  unfold f_G_leaves
  simp only [h90, hci, fg_og_tt]
  by_cases hO : O r = 0
  · rw [if_pos hO, if_neg (fun z => (lvb_t.mp z).1 hO)]
  · rw [if_neg hO, hB, fg_ob_s (pf_has (by omega))]
    by_cases hb : bt y (cl B r) = true
    · rw [if_pos hb, if_neg (by decide), hE, fg_ob_s (pf_has (by omega))]
      by_cases he : bt y (cl E r) = true
      · rw [if_pos he, if_neg (by decide), if_neg (fun z => by rw [(lvb_t.mp z).2.2] at he; cases he)]
      · rw [if_neg he, if_pos rfl, if_pos (lvb_t.mpr ⟨hO, hb, by simpa using he⟩)]
    · rw [if_neg hb, if_pos rfl, if_neg (fun z => hb (lvb_t.mp z).2.1)]
def sN (p : Nat → Bool) (g : Nat → Nat) : Nat → Nat
  | 0 => 0
  | n + 1 => sN p g n + (if p n = true then g n else 0)
theorem sN_cast {p : Nat → Bool} {g : Nat → Nat} {h : Nat → Int} : ∀ {n : Nat}, (∀ i, i < n → h i = if p i = true then (g i : Int) else 0) → (sN p g n : Int) = sm h n
  | 0, _ => rfl
  | n + 1, H => by
    show ((sN p g n + (if p n = true then g n else 0) : Nat) : Int) = sm h n + h n
    rw [Int.natCast_add, sN_cast (fun i hi => H i (Nat.lt_succ_of_lt hi)), H n (Nat.lt_succ_self n)]
    by_cases z : p n = true
    · rw [if_pos z, if_pos z]
    · rw [if_neg z, if_neg z]; rfl
theorem pf_c18 {B E C O : fg_A} {n y : Int32} {N : Nat} (Hw : wfm B E C O n N) :
    ∀ (k i : Nat), i ≤ N → N < i + k → f_G_cut_18 B E C O n y k (nI (sN (lvb B E O (bt y)) (cl C) i)) (nI i) = some (nI (sN (lvb B E O (bt y)) (cl C) N)) := by
  obtain ⟨hN, hn, hw⟩ := id Hw
  intro k
  induction k with
  | zero => intro i hi hk; omega
  | succ k ih =>
    intro i hi hk
    rw [f_G_cut_18]
    rcases Nat.lt_or_ge i N with q | q
    · obtain ⟨-, -, -, ⟨hC, -⟩, -⟩ := hw i q
      have h90 : ix (nI i) 90 = true := ix_nI (by omega) (by decide)
      have hci : (nI i).toNatClampNeg = i := nI_clamp (by omega)
      rw [if_neg (show ¬ n ≤ nI i by rw [hn]; exact nI_ge q (by omega)), fg_ob_s (pf_leaves Hw q), nI_1]
      by_cases h : lvb B E O (bt y) i = true
      · have e1 : sN (lvb B E O (bt y)) (cl C) (i + 1) = sN (lvb B E O (bt y)) (cl C) i + cl C i := by show _ + (if lvb B E O (bt y) i = true then cl C i else 0) = _; rw [if_pos h]
        rw [if_pos h, if_neg (by decide), fg_og_t h90, hci, hC, nI_add, ← e1]
        exact ih (i + 1) (by omega) (by omega)
      · have e1 : sN (lvb B E O (bt y)) (cl C) (i + 1) = sN (lvb B E O (bt y)) (cl C) i := by show _ + (if lvb B E O (bt y) i = true then cl C i else 0) = _; rw [if_neg h]; rfl
        rw [if_neg h, if_pos rfl, ← e1]
        exact ih (i + 1) (by omega) (by omega)
    · have e1 : i = N := by omega
      subst e1
      rw [if_pos (show n ≤ nI i by rw [hn]; exact nI_le (Nat.le_refl i) (by omega))]
theorem pf_unlike {a b : Nat} (ha : a < 28) (hb : b < 28) (h : a ≠ b) : f_M_areUnlike (nI a) (nI b) = some 1 := by
  unfold f_M_areUnlike
  rw [fg_ob_s (pf_isNode ha), if_neg (by decide), fg_ob_s (pf_isNode hb), if_neg (by decide), if_neg (fun z => h ((nI_eq (by omega) (by omega)).mp z))]
/-- both near sides are one -/
theorem pf_sides {B E C O : fg_A} {n : Int32} {N s t : Nat} (Hw : wfm B E C O n N) (hs : s < 28) (ht : t < 28) (hst : s ≠ t) (L V L2 V2 : fg_A) :
    ∃ y L' V' j L3 V3, f_G_nearSide B E C O n L V (nI s) (nI t) = some (y, L', V') ∧ f_M_flow n B E C O L2 V2 (nI s) (nI t) = some (nI j, L3, V3) ∧ j ≤ 810 ∧ (j : Int) = fl_cap N (cl B) (cl E) (fI C) (onb O) (bt y) ∧ mk28 y ∧ (∀ v, v < 28 → V3 v = nI (cl V3 v) ∧ cl V3 v ≤ 200) ∧ ∀ v, bt y v = mR V3 v := by
  obtain ⟨y, L', V', f, z, a1, a2, a3, a4, a5, a6, a7⟩ := pf_near Hw hs ht hst L V
  obtain ⟨j, L3, V3, c1, c2, c3, c4, c5, c6, c7, c8⟩ := pf_mflow Hw hs ht hst L2 V2
  obtain ⟨u1, u2⟩ := fl_unique Hw.b28 Hw.e28 hs a2 c3 a4 a5 a6 a7 c5 c6 c7 c8
  exact ⟨y, L', V', j, L3, V3, a1, c1, c2, by rw [← u1]; exact fl_eq Hw.b28 Hw.e28 hs a2 a4 a5 a6, a3, c4, u2⟩
/-- promise 10 -/
theorem pf_cut {B E C O : fg_A} {n : Int32} {N s t : Nat} (Hw : wfm B E C O n N) (hs : s < 28) (ht : t < 28) (hst : s ≠ t) (L V L2 V2 : fg_A) (th : Int32) :
    ∃ (r : Int32) (L' V' L3 V3 : fg_A), f_G_cut B E C O n L V (nI s) (nI t) = some (r, L', V') ∧ f_M_cut th n B E C O L2 V2 (nI s) (nI t) = some (r, 0, L3, V3) := by
  obtain ⟨y, L', V', j, L3, V3, a1, a2, a3, a4, a5, a6, a7⟩ := pf_sides Hw hs ht hst L V L2 V2
  have h1 := pf_c18 (y := y) Hw fu 0 (Nat.zero_le N) (by show N < 0 + 1000; have := Hw.1; omega)
  have h2 : (sN (lvb B E O (bt y)) (cl C) N : Int) = fl_cap N (cl B) (cl E) (fI C) (onb O) (bt y) := sN_cast fun r hr => by
    rw [(Hw.ci hr).1]
    by_cases z : lvb B E O (bt y) r = true
    · obtain ⟨z1, z2, z3⟩ := lvb_t.mp z
      rw [if_pos z, if_pos ⟨onb_t z1, z2, z3⟩]
    · rw [if_neg z, if_neg (fun ⟨z1, z2, z3⟩ => z (lvb_t.mpr ⟨onb_ne z1, z2, z3⟩))]
  have h3 : sN (lvb B E O (bt y)) (cl C) N = j := by omega
  refine ⟨nI j, L', V', L3, V3, ?_, ?_⟩
  · unfold f_G_cut
    rw [fg_ob_s (pf_needU hs ht hst), fg_ob_s a1]
    dsimp only
    rw [fg_ob_s (show f_G_cut_18 B E C O n y fu 0 0 = some (nI (sN (lvb B E O (bt y)) (cl C) N)) from h1), h3]
  · have e2 : f_M_refuse th 0 0 = some (0, 0) := rfl
    unfold f_M_cut
    rw [fg_ob_s (pf_unlike hs ht hst), if_neg (by decide), fg_ob_s e2]
    dsimp only
    rw [if_pos rfl, fg_ob_s a2]
theorem pf_cr {B E C O L V L3 V3 : fg_A} {n y x3 th : Int32} {N : Nat} (Hw : wfm B E C O n N) (hV : ∀ v, v < 28 → V3 v = nI (cl V3 v) ∧ cl V3 v ≤ 200) (hy : ∀ v, bt y v = mR V3 v) :
    ∀ (k i : Nat) (x : Int32), i ≤ N → N < i + k → ∃ r, f_G_cutRule_33 B E C O n L V x3 y k x (nI i) = some (r, L, V) ∧ f_M_cutRule_40 th n B E C O L3 V3 x3 k x (nI i) = some (r, th, L3, V3) := by
  obtain ⟨hN, hn, hw⟩ := id Hw
  intro k
  induction k with
  | zero => intro i x hi hk; omega
  | succ k ih =>
    intro i x hi hk
    rw [f_G_cutRule_33, f_M_cutRule_40]
    rcases Nat.lt_or_ge i N with q | q
    · obtain ⟨⟨hB, hB8⟩, ⟨hE, hE8⟩, -⟩ := hw i q
      have h90 : ix (nI i) 90 = true := ix_nI (by omega) (by decide)
      have hci : (nI i).toNatClampNeg = i := nI_clamp (by omega)
      have hcB : (B i).toNatClampNeg = cl B i := rfl
      have hcE : (E i).toNatClampNeg = cl E i := rfl
      have hxB : ix (B i) 28 = true := by rw [hB]; exact ix_nI hB8 (by decide)
      have hxE : ix (E i) 28 = true := by rw [hE]; exact ix_nI hE8 (by decide)
      have hlt : ¬ n ≤ nI i := by rw [hn]; exact nI_ge q (by omega)
      have le0 : ∀ {v}, v < 28 → (V3 v ≤ 0 ↔ bt y v = false) := fun {v} hv => by
        obtain ⟨z1, z2⟩ := hV v hv
        rw [hy v]
        constructor
        · intro h
          cases z : mR V3 v with
          | false => rfl
          | true =>
            have := (mR_t.mp z).2
            rw [z1] at h
            exact absurd h (nI_nle (by omega) (by omega))
        · intro h
          have : cl V3 v = 0 := by
            apply Classical.byContradiction
            intro z
            rw [mR_t.mpr ⟨hv, z⟩] at h; cases h
          rw [z1, this]; decide
      have eq0 : ∀ {v}, v < 28 → (V3 v = 0 ↔ bt y v = false) := fun {v} hv => by
        rw [← le0 hv]
        constructor
        · intro z; rw [z]; decide
        · intro z
          obtain ⟨z1, z2⟩ := hV v hv
          have : cl V3 v = 0 := by
            apply Classical.byContradiction
            intro w
            rw [z1] at z
            exact absurd z (nI_nle (by omega) (by omega))
          rw [z1, this]; rfl
      rw [if_neg hlt, if_neg hlt, fg_ob_s (pf_leaves Hw q)]
      simp only [h90, hci, hxB, hxE, hcB, hcE, nI_1, fg_og_tt]
      by_cases hO : O i = 0
      · rw [if_pos hO, if_neg (show ¬ lvb B E O (bt y) i = true from fun z => (lvb_t.mp z).1 hO), if_pos rfl]
        exact ih (i + 1) x (by omega) (by omega)
      · rw [if_neg hO]
        by_cases hb : bt y (cl B i) = true
        · rw [if_neg (show ¬ V3 (cl B i) ≤ 0 from fun z => by rw [(le0 hB8).mp z] at hb; cases hb)]
          by_cases he : bt y (cl E i) = true
          · rw [if_neg (show ¬ V3 (cl E i) = 0 from fun z => by rw [(eq0 hE8).mp z] at he; cases he), if_neg (show ¬ lvb B E O (bt y) i = true from fun z => by rw [(lvb_t.mp z).2.2] at he; cases he), if_pos rfl]
            exact ih (i + 1) x (by omega) (by omega)
          · have he2 : bt y (cl E i) = false := by simpa using he
            rw [if_pos ((eq0 hE8).mpr he2), if_pos (lvb_t.mpr ⟨hO, hb, he2⟩), if_neg (by decide)]
            by_cases hx : x = x3
            · rw [if_pos hx, if_pos hx]; exact ⟨_, rfl, rfl⟩
            · rw [if_neg hx, if_neg hx]
              exact ih (i + 1) (x + 1) (by omega) (by omega)
        · have hb2 : bt y (cl B i) = false := by simpa using hb
          rw [if_pos ((le0 hB8).mpr hb2), if_neg (show ¬ lvb B E O (bt y) i = true from fun z => hb (lvb_t.mp z).2.1), if_pos rfl]
          exact ih (i + 1) x (by omega) (by omega)
    · have e1 : i = N := by omega
      subst e1
      have hle : n ≤ nI i := by rw [hn]; exact nI_le (Nat.le_refl i) (by omega)
      rw [if_pos hle, if_pos hle]
      exact ⟨_, rfl, rfl⟩
/-- promise 11 -/
theorem pf_cutRule {B E C O : fg_A} {n k0 : Int32} {N s t : Nat} (Hw : wfm B E C O n N) (hs : s < 28) (ht : t < 28) (hst : s ≠ t) (hk : 0 ≤ k0) (L V L2 V2 : fg_A) (th : Int32) :
    ∃ (r : Int32) (L' V' L3 V3 : fg_A), f_G_cutRule B E C O n L V (nI s) (nI t) k0 = some (r, L', V') ∧ f_M_cutRule th n B E C O L2 V2 (nI s) (nI t) k0 = some (r, 0, L3, V3) := by
  obtain ⟨y, L', V', j, L3, V3, a1, a2, a3, a4, a5, a6, a7⟩ := pf_sides Hw hs ht hst L V L2 V2
  obtain ⟨r, h1, h2⟩ := pf_cr (L := L') (V := V') (L3 := L3) (V3 := V3) (y := y) (x3 := k0) (th := 0) Hw a6 a7 fu 0 0 (Nat.zero_le N) (by show N < 0 + 1000; have := Hw.1; omega)
  refine ⟨r, L', V', L3, V3, ?_, ?_⟩
  · unfold f_G_cutRule
    rw [fg_ob_s (pf_needU hs ht hst), if_pos hk, fg_ob_s a1]
    exact h1
  · have e2 : f_M_refuse th 0 0 = some (0, 0) := rfl
    unfold f_M_cutRule
    rw [fg_ob_s (pf_unlike hs ht hst), if_neg (by decide), if_pos hk, fg_ob_s e2]
    dsimp only
    rw [if_pos rfl, fg_ob_s a2]
    exact h2
theorem pf_l35 {V : fg_A} (hV : ∀ v, v < 28 → V v = nI (cl V v) ∧ cl V v ≤ 200) :
    ∀ (k i : Nat) (x : Int32), i ≤ 28 → 28 < i + k → mk28 x → (∀ v, v < 28 → (bt x v = true ↔ v < i ∧ mR V v = true)) → ∃ y, f_M_left_35 V k x (nI i) = some y ∧ mk28 y ∧ ∀ v, v < 28 → (bt y v = true ↔ mR V v = true) := by
  intro k
  induction k with
  | zero => intro i x hi hk; omega
  | succ k ih =>
    intro i x hi hk hx hb
    rw [f_M_left_35]
    rcases Nat.lt_or_ge i 28 with q | q
    · obtain ⟨miss, hit⟩ := mk_step (P := fun v => mR V v = true) q hb
      obtain ⟨z1, z2⟩ := hV i q
      rw [if_neg (show ¬ (28 : Int32) ≤ nI i from nI_ge q (by decide)), fg_og_t (ix_nI q (by decide)), nI_clamp (by omega), nI_1]
      by_cases h : cl V i = 0
      · rw [if_pos (show V i ≤ 0 by rw [z1, h]; decide)]
        exact ih (i + 1) x (by omega) (by omega) hx (miss fun z => (mR_t.mp z).2 h)
      · rw [if_neg (show ¬ V i ≤ 0 by rw [z1]; exact nI_nle (by omega) (by omega))]
        exact ih (i + 1) _ (by omega) (by omega) (mk28_or hx q) (hit (mR_t.mpr ⟨q, h⟩))
    · rw [if_pos (show (28 : Int32) ≤ nI i from nI_le q (by omega))]
      exact ⟨x, rfl, hx, fun v hv => by rw [hb v hv]; exact ⟨fun h => h.2, fun h => ⟨by omega, h⟩⟩⟩
/-- promise 12 -/
theorem pf_left {B E C O : fg_A} {n : Int32} {N s t : Nat} (Hw : wfm B E C O n N) (hs : s < 28) (ht : t < 28) (hst : s ≠ t) (L V L2 V2 : fg_A) (th : Int32) :
    ∃ (r : Int32) (L' V' L3 V3 : fg_A), f_G_left B E C O n L V (nI s) (nI t) = some (r, L', V') ∧ f_M_left th n B E C O L2 V2 (nI s) (nI t) = some (r, 0, L3, V3) := by
  obtain ⟨y, L', V', j, L3, V3, a1, a2, a3, a4, a5, a6, a7⟩ := pf_sides Hw hs ht hst L V L2 V2
  obtain ⟨y2, c1, c2, c3⟩ := pf_l35 a6 fu 0 0 (by omega) (by decide) mk28_0 (fun v _ => by rw [b_0]; exact ⟨fun h => (by cases h), fun h => absurd h.1 (Nat.not_lt_zero v)⟩)
  have e1 : y = y2 := mk_ext a5 c2 fun v hv => by
    rw [a7 v]
    cases h1 : mR V3 v <;> cases h2 : bt y2 v
    · rfl
    · rw [(c3 v hv).mp h2] at h1; cases h1
    · rw [(c3 v hv).mpr h1] at h2; cases h2
    · rfl
  refine ⟨y, L', V', L3, V3, ?_, ?_⟩
  · unfold f_G_left
    rw [fg_ob_s (pf_needU hs ht hst), fg_ob_s a1]
  · have e2 : f_M_refuse th 0 0 = some (0, 0) := rfl
    unfold f_M_left
    rw [fg_ob_s (pf_unlike hs ht hst), if_neg (by decide), fg_ob_s e2]
    dsimp only
    rw [if_pos rfl, fg_ob_s a2]
    dsimp only
    rw [fg_ob_s (show f_M_left_35 V3 fu 0 0 = some y2 from c1), e1]
end
section
/-! Each call of the law: both answer alike, or both refuse alike. -/
theorem fg_ob_ss {α β : Type} {k : α → Option β} {a : α} : fg_ob (some a) k = k a := rfl
theorem fg_ot_s {β : Type} {y : Option β} {a : β} : fg_ot (some a) y = some a := rfl
theorem fg_ot_n {β : Type} {y : Option β} : fg_ot none y = y := rfl
theorem rf_11 (t : Int32) : f_M_refuse t 1 1 = some (1, 1) := rfl
theorem rf_10 (t : Int32) : f_M_refuse t 1 0 = some (1, 1) := rfl
theorem rf_01 (t : Int32) : f_M_refuse t 0 1 = some (1, 2) := rfl
theorem rf_00 (t : Int32) : f_M_refuse t 0 0 = some (0, 0) := rfl
theorem i10 : ¬ (1 : Int32) = 0 := by decide
theorem i32_lt {a b : Int32} : ¬ a < b ↔ b ≤ a := by rw [Int32.lt_iff_toInt_lt, Int32.le_iff_toInt_le]; omega
theorem nd_cases (x : Int32) : (∃ v, v < 28 ∧ x = nI v) ∨ (t_G_needNode x = some 0 ∧ f_M_isNode x = some 0) := by
  by_cases h : x < 0
  · refine Or.inr ⟨?_, ?_⟩
    · unfold t_G_needNode; rw [if_pos h]
    · unfold f_M_isNode f_M_in; rw [if_pos h]; rfl
  · by_cases h2 : x < 28
    · exact Or.inl (nd_of h h2)
    · refine Or.inr ⟨?_, ?_⟩
      · unfold t_G_needNode; rw [if_neg h, if_neg h2]
      · have h3 : (27 : Int32) < x := by
          rw [Int32.lt_iff_toInt_lt] at h2 ⊢
          have e1 : (28 : Int32).toInt = 28 := by decide
          have e2 : (27 : Int32).toInt = 27 := by decide
          omega
        unfold f_M_isNode f_M_in; rw [if_neg h, if_pos h3]; rfl
theorem t_node {v : Nat} (h : v < 28) : t_G_needNode (nI v) = none := by
  unfold t_G_needNode
  rw [if_neg (nI_pos (by omega)), if_pos (show nI v < 28 from nI_lt (b := 28) h (by decide))]
/-- two nodes: both are there, or the call is refused -/
theorem nd2_cases (x y : Int32) : (∃ v w, v < 28 ∧ w < 28 ∧ x = nI v ∧ y = nI w) ∨ (t_G_needNodes x y = some 0 ∧ (f_M_isNode x = some 0 ∨ f_M_isNode x = some 1 ∧ f_M_isNode y = some 0)) := by
  rcases nd_cases x with ⟨v, hv, rfl⟩ | ⟨h1, h2⟩
  · rcases nd_cases y with ⟨w, hw, rfl⟩ | ⟨h1, h2⟩
    · exact Or.inl ⟨v, w, hv, hw, rfl, rfl⟩
    · refine Or.inr ⟨?_, Or.inr ⟨pf_isNode hv, h2⟩⟩
      unfold t_G_needNodes
      simp only [t_node hv, pf_need1 hv, h1, fg_ot_n, fg_ob_ss, fg_ot_s]
  · refine Or.inr ⟨?_, Or.inl h2⟩
    unfold t_G_needNodes
    simp only [h1, fg_ot_s]
theorem t_nodes {v w : Nat} (h : v < 28) (h2 : w < 28) : t_G_needNodes (nI v) (nI w) = none := by
  unfold t_G_needNodes
  simp only [t_node h, t_node h2, pf_need1 h, pf_need1 h2, fg_ot_n, fg_ob_ss]
/-- two unlike nodes -/
theorem nu_cases (x y : Int32) : (∃ v w, v < 28 ∧ w < 28 ∧ v ≠ w ∧ x = nI v ∧ y = nI w) ∨ (t_G_needUnlikeNodes x y = some 0 ∧ f_M_areUnlike x y = some 0) := by
  rcases nd2_cases x y with ⟨v, w, hv, hw, rfl, rfl⟩ | ⟨h1, h2⟩
  · by_cases q : v = w
    · refine Or.inr ⟨?_, ?_⟩
      · unfold t_G_needUnlikeNodes
        simp only [t_nodes hv hw, pf_need hv hw, fg_ot_n, fg_ob_ss]
        rw [if_pos (by rw [q])]
      · unfold f_M_areUnlike
        simp only [pf_isNode hv, pf_isNode hw, fg_ob_ss, if_neg i10]
        rw [if_pos (by rw [q])]
    · exact Or.inl ⟨v, w, hv, hw, q, rfl, rfl⟩
  · refine Or.inr ⟨?_, ?_⟩
    · unfold t_G_needUnlikeNodes
      simp only [h1, fg_ot_s]
    · unfold f_M_areUnlike
      rcases h2 with h2 | ⟨h2, h3⟩
      · simp only [h2, fg_ob_ss, if_true]
      · simp only [h2, h3, fg_ob_ss, if_neg i10, if_true]
theorem t_unlike {v w : Nat} (h : v < 28) (h2 : w < 28) (h3 : v ≠ w) : t_G_needUnlikeNodes (nI v) (nI w) = none := by
  unfold t_G_needUnlikeNodes
  simp only [t_nodes h h2, pf_need h h2, fg_ot_n, fg_ob_ss]
  rw [if_neg (fun z => h3 ((nI_eq (by omega) (by omega)).mp z))]
theorem op_length {B E C O : fg_A} {n : Int32} {N : Nat} (Hw : wfm B E C O n N) (p0 p1 : Int32) (F K : fg_A) (t : Int32) :
    (∃ r F' K', t_G_length B E O n F p0 p1 = none ∧ f_G_length B E O n F p0 p1 = some (r, F') ∧ f_M_length t n B E O K p0 p1 = some (r, 0, K')) ∨ (t_G_length B E O n F p0 p1 = some 0 ∧ ∃ r K', f_M_length t n B E O K p0 p1 = some (r, 1, K')) := by
  rcases nd2_cases p0 p1 with ⟨v, w, hv, hw, rfl, rfl⟩ | ⟨h1, h2⟩
  · obtain ⟨F', K', r, a1, a2⟩ := pf_length Hw hv hw F K t
    exact Or.inl ⟨r, F', K', by unfold t_G_length; simp only [t_nodes hv hw, pf_need hv hw, fg_ot_n, fg_ob_ss], a1, a2⟩
  · refine Or.inr ⟨?_, 0, K, ?_⟩
    · unfold t_G_length; simp only [h1, fg_ot_s]
    · unfold f_M_length
      rcases h2 with h2 | ⟨h2, h3⟩
      · simp only [h2, fg_ob_ss, if_true, rf_10, if_neg i10]
      · simp only [h2, h3, fg_ob_ss, if_true, rf_10, if_neg i10]
theorem op_passed {B E C O : fg_A} {n : Int32} {N : Nat} (Hw : wfm B E C O n N) (p0 p1 : Int32) (K : fg_A) (t : Int32) :
    (∃ r K', t_G_passed B E O n p0 p1 = none ∧ f_G_passed B E O n p0 p1 = some r ∧ f_M_passed t n B E O K p0 p1 = some (r, 0, K')) ∨ (t_G_passed B E O n p0 p1 = some 0 ∧ ∃ r K', f_M_passed t n B E O K p0 p1 = some (r, 1, K')) := by
  rcases nd2_cases p0 p1 with ⟨v, w, hv, hw, rfl, rfl⟩ | ⟨h1, h2⟩
  · obtain ⟨r, K', a1, a2⟩ := pf_passed Hw hv hw K t
    exact Or.inl ⟨r, K', by unfold t_G_passed; simp only [t_nodes hv hw, pf_need hv hw, fg_ot_n, fg_ob_ss], a1, a2⟩
  · refine Or.inr ⟨?_, 0, K, ?_⟩
    · unfold t_G_passed; simp only [h1, fg_ot_s]
    · unfold f_M_passed
      rcases h2 with h2 | ⟨h2, h3⟩
      · simp only [h2, fg_ob_ss, if_true, rf_10, if_neg i10]
      · simp only [h2, h3, fg_ob_ss, if_true, rf_10, if_neg i10]
theorem op_circle {B E C O : fg_A} {n : Int32} {N : Nat} (Hw : wfm B E C O n N) (p0 : Int32) (K : fg_A) (t : Int32) :
    (∃ r K', t_G_circle B E O n p0 = none ∧ f_G_circle B E O n p0 = some r ∧ f_M_circle t n B E O K p0 = some (r, 0, K')) ∨ (t_G_circle B E O n p0 = some 0 ∧ ∃ r K', f_M_circle t n B E O K p0 = some (r, 1, K')) := by
  rcases nd_cases p0 with ⟨v, hv, rfl⟩ | ⟨h1, h2⟩
  · obtain ⟨r, K', a1, a2⟩ := pf_circle Hw hv K t
    exact Or.inl ⟨r, K', by unfold t_G_circle; simp only [t_node hv, pf_need1 hv, fg_ot_n, fg_ob_ss], a1, a2⟩
  · refine Or.inr ⟨?_, 0, K, ?_⟩
    · unfold t_G_circle; simp only [h1, fg_ot_s]
    · unfold f_M_circle
      simp only [h2, fg_ob_ss, if_true, rf_10, if_neg i10]
theorem op_cut {B E C O : fg_A} {n : Int32} {N : Nat} (Hw : wfm B E C O n N) (p0 p1 : Int32) (L V L2 V2 : fg_A) (t : Int32) :
    (∃ r L' V' L3 V3, t_G_cut B E C O n L V p0 p1 = none ∧ f_G_cut B E C O n L V p0 p1 = some (r, L', V') ∧ f_M_cut t n B E C O L2 V2 p0 p1 = some (r, 0, L3, V3)) ∨ (t_G_cut B E C O n L V p0 p1 = some 0 ∧ ∃ r L3 V3, f_M_cut t n B E C O L2 V2 p0 p1 = some (r, 1, L3, V3)) := by
  rcases nu_cases p0 p1 with ⟨v, w, hv, hw, hne, rfl, rfl⟩ | ⟨h1, h2⟩
  · obtain ⟨r, L', V', L3, V3, a1, a2⟩ := pf_cut Hw hv hw hne L V L2 V2 t
    exact Or.inl ⟨r, L', V', L3, V3, by unfold t_G_cut; simp only [t_unlike hv hw hne, pf_needU hv hw hne, fg_ot_n, fg_ob_ss], a1, a2⟩
  · refine Or.inr ⟨?_, 0, L2, V2, ?_⟩
    · unfold t_G_cut; simp only [h1, fg_ot_s]
    · unfold f_M_cut
      simp only [h2, fg_ob_ss, if_true, rf_10, if_neg i10]
theorem op_left {B E C O : fg_A} {n : Int32} {N : Nat} (Hw : wfm B E C O n N) (p0 p1 : Int32) (L V L2 V2 : fg_A) (t : Int32) :
    (∃ r L' V' L3 V3, t_G_left B E C O n L V p0 p1 = none ∧ f_G_left B E C O n L V p0 p1 = some (r, L', V') ∧ f_M_left t n B E C O L2 V2 p0 p1 = some (r, 0, L3, V3)) ∨ (t_G_left B E C O n L V p0 p1 = some 0 ∧ ∃ r L3 V3, f_M_left t n B E C O L2 V2 p0 p1 = some (r, 1, L3, V3)) := by
  rcases nu_cases p0 p1 with ⟨v, w, hv, hw, hne, rfl, rfl⟩ | ⟨h1, h2⟩
  · obtain ⟨r, L', V', L3, V3, a1, a2⟩ := pf_left Hw hv hw hne L V L2 V2 t
    exact Or.inl ⟨r, L', V', L3, V3, by unfold t_G_left; simp only [t_unlike hv hw hne, pf_needU hv hw hne, fg_ot_n, fg_ob_ss], a1, a2⟩
  · refine Or.inr ⟨?_, 0, L2, V2, ?_⟩
    · unfold t_G_left; simp only [h1, fg_ot_s]
    · unfold f_M_left
      simp only [h2, fg_ob_ss, if_true, rf_10, if_neg i10]
theorem op_cutRule {B E C O : fg_A} {n : Int32} {N : Nat} (Hw : wfm B E C O n N) (p0 p1 p2 : Int32) (L V L2 V2 : fg_A) (t : Int32) :
    (∃ r L' V' L3 V3, t_G_cutRule B E C O n L V p0 p1 p2 = none ∧ f_G_cutRule B E C O n L V p0 p1 p2 = some (r, L', V') ∧ f_M_cutRule t n B E C O L2 V2 p0 p1 p2 = some (r, 0, L3, V3)) ∨ (t_G_cutRule B E C O n L V p0 p1 p2 = some 0 ∧ ∃ r L3 V3, f_M_cutRule t n B E C O L2 V2 p0 p1 p2 = some (r, 1, L3, V3)) := by
  rcases nu_cases p0 p1 with ⟨v, w, hv, hw, hne, rfl, rfl⟩ | ⟨h1, h2⟩
  · by_cases hk : 0 ≤ p2
    · obtain ⟨r, L', V', L3, V3, a1, a2⟩ := pf_cutRule Hw hv hw hne hk L V L2 V2 t
      exact Or.inl ⟨r, L', V', L3, V3, by unfold t_G_cutRule; simp only [t_unlike hv hw hne, pf_needU hv hw hne, fg_ot_n, fg_ob_ss, if_pos hk], a1, a2⟩
    · refine Or.inr ⟨?_, 0, L2, V2, ?_⟩
      · unfold t_G_cutRule
        simp only [t_unlike hv hw hne, pf_needU hv hw hne, fg_ot_n, fg_ob_ss, if_neg hk]
      · unfold f_M_cutRule
        simp only [pf_unlike hv hw hne, fg_ob_ss, if_neg i10, if_neg hk, rf_10]
  · refine Or.inr ⟨?_, 0, L2, V2, ?_⟩
    · unfold t_G_cutRule; simp only [h1, fg_ot_s]
    · unfold f_M_cutRule
      simp only [h2, fg_ob_ss, if_true, rf_10, if_neg i10]
theorem op_circles {B E C O : fg_A} {n : Int32} {N : Nat} (Hw : wfm B E C O n N) (K : fg_A) (t : Int32) : ∃ r K', f_G_circles B E O n = some r ∧ f_M_circles t n B E O K = some (r, 0, K') := pf_circles Hw K t
theorem nI_lt_m1 {j : Nat} (h : j < 2 ^ 31) : pmI 0 < nI j := by
  rw [Int32.lt_iff_toInt_lt, nI_toInt h]
  have : (pmI 0).toInt = -1 := by decide
  omega
theorem not_lt_m1 {j : Nat} (h : j < 2 ^ 31) : ¬ nI j < -1 := by
  rw [Int32.lt_iff_toInt_lt, nI_toInt h]
  have : (-1 : Int32).toInt = -1 := by decide
  omega
theorem lt_m2 {j : Nat} (h : j < 2 ^ 31) : (-1 : Int32) - 1 < nI j := by
  rw [Int32.lt_iff_toInt_lt, nI_toInt h]
  have : ((-1 : Int32) - 1).toInt = -2 := by decide
  omega
theorem op_step {B E C O : fg_A} {n : Int32} {N : Nat} (Hw : wfm B E C O n N) (p0 p1 p2 : Int32) (F K : fg_A) (t : Int32) :
    (∃ r F' K', t_G_step B E O n F p0 p1 p2 = none ∧ f_G_step B E O n F p0 p1 p2 = some (r, F') ∧ f_M_step t n B E O K p0 p1 p2 = some (r, 0, K')) ∨ (∃ F', t_G_step B E O n F p0 p1 p2 = some (0, F') ∧ ∃ r K', f_M_step t n B E O K p0 p1 p2 = some (r, 1, K')) ∨ (∃ F', t_G_step B E O n F p0 p1 p2 = some (2, F') ∧ ∃ r K', f_M_step t n B E O K p0 p1 p2 = some (r, 2, K')) := by
  rcases nd2_cases p0 p1 with ⟨v, w, hv, hw, rfl, rfl⟩ | ⟨h1, h2⟩
  · obtain ⟨F', a1, a2⟩ := pf_mw Hw hw F
    obtain ⟨K', c1, c2⟩ := pf_mm Hw hw K (-1)
    have c3 := wf_all_congr (okm_m1 Hw) c2
    have hcv : (nI v).toNatClampNeg = v := nI_clamp (by omega)
    have hxv : ix (nI v) 28 = true := ix_nI hv (by decide)
    have hFK : K' v = F' v := wf_same c3 a2 hv
    -- refused for k
    have bad : (p2 < 0 ∨ ¬ p2 < F' v) → ∃ F', t_G_step B E O n F (nI v) (nI w) p2 = some (2, F') ∧ ∃ r K', f_M_step t n B E O K (nI v) (nI w) p2 = some (r, 2, K') := fun hb => by
      refine ⟨F', ?_, 0, K', ?_⟩
      · unfold t_G_step
        simp only [t_nodes hv hw, pf_need hv hw, fg_ot_n, fg_ob_ss, a1, hxv, hcv, fg_og_tt]
        by_cases z : p2 < 0
        · simp only [fg_ob, fg_ot_n, if_pos z]
        · have z2 := hb.resolve_left z
          simp only [fg_ob, fg_ot_n, if_neg z, if_neg z2]
      · have hin : f_M_in p2 0 (K' v - 1) = some 0 := by
          unfold f_M_in
          by_cases z : p2 < 0
          · rw [if_pos z]
          · have z2 := hb.resolve_left z
            rw [if_neg z, if_pos]
            rw [hFK]
            rcases a2 v hv with ⟨d, d1, d2, -⟩ | ⟨d2, -⟩
            · rw [d2] at z2 ⊢
              obtain ⟨j, hj, rfl⟩ := nI_of z
              rw [pmI_sub]
              have z3 : ¬ j < d := fun q => z2 (nI_lt q (by omega))
              cases d with
              | zero => exact nI_lt_m1 hj
              | succ d => exact nI_lt (by omega) hj
            · rw [d2]
              obtain ⟨j, hj, rfl⟩ := nI_of z
              exact lt_m2 hj
        unfold f_M_step
        simp only [pf_isNode hv, pf_isNode hw, fg_ob_ss, if_neg i10, c1, hxv, hcv, fg_og_tt, hin, if_true, rf_01]
    by_cases z : p2 < 0
    · exact Or.inr (Or.inr (bad (Or.inl z)))
    · by_cases z2 : p2 < F' v
      · obtain ⟨j, hj, rfl⟩ := nI_of z
        rcases a2 v hv with ⟨d, d1, d2, -⟩ | ⟨d2, -⟩
        · rw [d2] at z2
          obtain ⟨r, g1, g2⟩ := pf_step Hw hv hw F K t a1 a2 c1 c3 d2 d1 ((nI_ltI hj (by omega)).mp z2)
          refine Or.inl ⟨r, F', K', ?_, g1, g2⟩
          unfold t_G_step
          simp only [t_nodes hv hw, pf_need hv hw, fg_ob_ss, a1, hxv, hcv, fg_og_tt, if_neg z, d2, if_pos z2]
          rfl
        · rw [d2] at z2
          exact absurd z2 (not_lt_m1 hj)
      · exact Or.inr (Or.inr (bad (Or.inr z2)))
  · refine Or.inr (Or.inl ⟨F, ?_, 0, K, ?_⟩)
    · unfold t_G_step; simp only [h1, fg_ob_ss, fg_ot_s]
    · unfold f_M_step
      rcases h2 with h2 | ⟨h2, h3⟩
      · simp only [h2, fg_ob_ss, if_true, rf_10, if_neg i10]
      · simp only [h2, h3, fg_ob_ss, if_true, rf_10, if_neg i10]
theorem nar1 : vp_nar .boolean 1 = 1 := by decide
theorem nar0 : vp_nar .boolean 0 = 0 := by decide
theorem wfm_add {B E C O : fg_A} {n : Int32} {N v w c : Nat} (Hw : wfm B E C O n N) (hN : N < 90) (hv : v < 28) (hw : w < 28) (hne : v ≠ w) (hc1 : 1 ≤ c) (hc9 : c ≤ 9) : wfm (upd B N (nI v)) (upd E N (nI w)) (upd C N (nI c)) (upd O N 1) (nI (N + 1)) (N + 1) := by
  refine ⟨by omega, rfl, fun r hr => ?_⟩
  by_cases q : r = N
  · subst q
    have e1 : cl (upd B r (nI v)) r = v := by rw [cl_upd (by omega), if_pos rfl]
    have e2 : cl (upd E r (nI w)) r = w := by rw [cl_upd (by omega), if_pos rfl]
    have e3 : cl (upd C r (nI c)) r = c := by rw [cl_upd (by omega), if_pos rfl]
    rw [e1, e2, e3]
    exact ⟨⟨pk_us, hv⟩, ⟨pk_us, hw⟩, hne, ⟨pk_us, hc1, hc9⟩, Or.inr pk_us⟩
  · have e1 : cl (upd B N (nI v)) r = cl B r := by rw [cl_upd (by omega), if_neg q]
    have e2 : cl (upd E N (nI w)) r = cl E r := by rw [cl_upd (by omega), if_neg q]
    have e3 : cl (upd C N (nI c)) r = cl C r := by rw [cl_upd (by omega), if_neg q]
    rw [e1, e2, e3, pk_un q, pk_un q, pk_un q, pk_un q]
    exact Hw.2.2 r (by omega)
theorem in19 (x : Int32) : (∃ c, 1 ≤ c ∧ c ≤ 9 ∧ x = nI c ∧ ¬ x < 1 ∧ x ≤ 9 ∧ f_M_in x 1 9 = some 1) ∨ (f_M_in x 1 9 = some 0 ∧ (x < 1 ∨ ¬ x ≤ 9)) := by
  by_cases h : x < 1
  · refine Or.inr ⟨?_, Or.inl h⟩
    unfold f_M_in; rw [if_pos h]
  · by_cases h2 : x ≤ 9
    · have h0 : ¬ x < 0 := fun z => h (by
        rw [Int32.lt_iff_toInt_lt] at z ⊢
        have e1 : (0 : Int32).toInt = 0 := by decide
        have e2 : (1 : Int32).toInt = 1 := by decide
        omega)
      obtain ⟨j, hj, rfl⟩ := nI_of2 (M := 9) (n := 9) (by decide) h0 h2
      refine Or.inl ⟨j, ?_, hj, rfl, h, h2, ?_⟩
      · rcases Nat.lt_or_ge j 1 with q | q
        · exact absurd (show nI j < nI 1 from nI_lt q (by decide)) h
        · exact q
      · unfold f_M_in
        rw [if_neg h, if_neg (show ¬ (9 : Int32) < nI j from nI_nlt (a := 9) hj (by decide))]
    · refine Or.inr ⟨?_, Or.inr h2⟩
      have h3 : (9 : Int32) < x := by
        rw [Int32.lt_iff_toInt_lt]
        rw [Int32.le_iff_toInt_le] at h2
        omega
      unfold f_M_in; rw [if_neg h, if_pos h3]
theorem op_rule {B E C O : fg_A} {n : Int32} {N : Nat} (Hw : wfm B E C O n N) (p0 p1 p2 t : Int32) :
    (∃ r B' E' C' O' n' N', t_G_rule B E C O n p0 p1 p2 = none ∧ f_G_rule B E C O n p0 p1 p2 = some (r, B', E', C', O', n') ∧ f_M_rule t n B E C O p0 p1 p2 = some (r, 0, n', B', E', C', O') ∧ wfm B' E' C' O' n' N') ∨
    (t_G_rule B E C O n p0 p1 p2 = some 0 ∧ ∃ r, f_M_rule t n B E C O p0 p1 p2 = some (r, 1, n, B, E, C, O)) ∨ (t_G_rule B E C O n p0 p1 p2 = some 1 ∧ ∃ r, f_M_rule t n B E C O p0 p1 p2 = some (r, 2, n, B, E, C, O)) := by
  obtain ⟨hN, hn, -⟩ := id Hw
  rcases nd2_cases p0 p1 with ⟨v, w, hv, hw, rfl, rfl⟩ | ⟨h1, h2⟩
  · by_cases q : v = w
    · refine Or.inr (Or.inl ⟨?_, 0, ?_⟩)
      · unfold t_G_rule t_G_needUnlikeNodes
        simp only [t_nodes hw hw, pf_need hw hw, fg_ot_n, fg_ob_ss, q, if_true, fg_ot_s]
      · unfold f_M_rule
        simp only [pf_isNode hv, pf_isNode hw, fg_ob_ss, if_neg i10, q, if_true, rf_10, rf_11]
        split <;> rfl
    · have hne : ¬ nI v = nI w := fun z => q ((nI_eq (by omega) (by omega)).mp z)
      rcases in19 p2 with ⟨c, c1, c9, rfl, c2, c3, c4⟩ | ⟨c4, c5⟩
      · rcases Nat.lt_or_ge N 90 with hN9 | hN9
        · have hlt : n < 90 := by rw [hn]; exact (show nI N < nI 90 from nI_lt hN9 (by decide))
          have hn9 : ¬ n = 90 := by rw [hn]; exact fun z => by have := (nI_eq (by omega) (by decide)).mp (show nI N = nI 90 from z); omega
          have h90 : ix n 90 = true := by rw [hn]; exact ix_nI hN9 (by decide)
          have hcl : n.toNatClampNeg = N := by rw [hn]; exact nI_clamp (by omega)
          refine Or.inl ⟨n, upd B N (nI v), upd E N (nI w), upd C N (nI c), upd O N 1, n + 1, N + 1, ?_, ?_, ?_, ?_⟩
          · unfold t_G_rule
            simp only [t_unlike hv hw q, pf_needU hv hw q, fg_ot_n, fg_ob_ss, if_neg c2, if_pos c3, if_pos hlt]
          · unfold f_G_rule
            simp only [pf_needU hv hw q, fg_ob_ss, if_neg c2, if_pos c3, if_pos hlt, h90, fg_og_tt, hcl, nar1]
          · have hd : n + 1 - 1 = n := by rw [hn, nI_1, nI_pred]
            unfold f_M_rule
            simp only [pf_isNode hv, pf_isNode hw, fg_ob_ss, if_neg i10, if_neg hne, c4, if_neg hn9, rf_00, if_true, h90, fg_og_tt, hcl, nar1, hd]
          · rw [hn, nI_1]
            exact wfm_add Hw hN9 hv hw q c1 c9
        · have e1 : N = 90 := by omega
          subst e1
          have hlt : ¬ n < 90 := by rw [hn]; exact (show ¬ nI 90 < nI 90 from nI_nlt (Nat.le_refl 90) (by decide))
          have hn9 : n = 90 := hn
          refine Or.inr (Or.inr ⟨?_, 0, ?_⟩)
          · unfold t_G_rule
            simp only [t_unlike hv hw q, pf_needU hv hw q, fg_ot_n, fg_ob_ss, if_neg c2, if_pos c3, if_neg hlt]
          · unfold f_M_rule
            simp only [pf_isNode hv, pf_isNode hw, fg_ob_ss, if_neg i10, if_neg hne, c4, if_pos hn9, rf_01]
      · refine Or.inr (Or.inl ⟨?_, 0, ?_⟩)
        · unfold t_G_rule
          simp only [t_unlike hv hw q, pf_needU hv hw q, fg_ot_n, fg_ob_ss]
          by_cases z : p2 < 1
          · rw [if_pos z]
          · rw [if_neg z, if_neg (c5.resolve_left z)]
        · unfold f_M_rule
          simp only [pf_isNode hv, pf_isNode hw, fg_ob_ss, if_neg i10, if_neg hne, c4, if_true, rf_10, rf_11]
          split <;> rfl
  · refine Or.inr (Or.inl ⟨?_, 0, ?_⟩)
    · unfold t_G_rule t_G_needUnlikeNodes
      simp only [h1, fg_ot_s]
    · unfold f_M_rule
      rcases h2 with h2 | ⟨h2, h3⟩
      · simp only [h2, fg_ob_ss, if_true, rf_10, rf_11, if_neg i10]
        split <;> rfl
      · simp only [h2, h3, fg_ob_ss, if_true, rf_10, rf_11, if_neg i10]
        split <;> rfl
theorem wfm_on {B E C O : fg_A} {n : Int32} {N r : Nat} {x : Int32} (Hw : wfm B E C O n N) (hx : x = 0 ∨ x = 1) : wfm B E C (upd O r x) n N := by
  refine ⟨Hw.1, Hw.2.1, fun q hq => ?_⟩
  obtain ⟨a1, a2, a3, a4, a5⟩ := Hw.2.2 q hq
  refine ⟨a1, a2, a3, a4, ?_⟩
  by_cases z : q = r
  · rw [z, pk_us]; exact hx
  · rw [pk_un z]; exact a5
theorem op_turn {B E C O : fg_A} {n : Int32} {N : Nat} (Hw : wfm B E C O n N) (p0 p1 t : Int32) (hp : p1 = 0 ∨ p1 = 1) :
    (∃ r O', t_G_turn O n p0 p1 = none ∧ f_G_turn O n p0 p1 = some (r, O') ∧ f_M_turn t n O p0 p1 = some (r, 0, O') ∧ (r = 0 ∨ r = 1) ∧ wfm B E C O' n N) ∨ (t_G_turn O n p0 p1 = some 2 ∧ ∃ r, f_M_turn t n O p0 p1 = some (r, 1, O)) := by
  obtain ⟨hN, hn, -⟩ := id Hw
  have hnar : vp_nar .boolean p1 = p1 := by rcases hp with rfl | rfl <;> decide
  by_cases z : p0 < 0
  · refine Or.inr ⟨?_, 0, ?_⟩
    · unfold t_G_turn; rw [if_pos z]
    · have hin : f_M_in p0 0 (n - 1) = some 0 := by unfold f_M_in; rw [if_pos z]
      unfold f_M_turn
      simp only [hin, fg_ob_ss, if_true, rf_10, if_neg i10]
  · obtain ⟨j, hj, rfl⟩ := nI_of z
    rcases Nat.lt_or_ge j N with q | q
    · have hlt : nI j < n := by rw [hn]; exact nI_lt q (by omega)
      have h90 : ix (nI j) 90 = true := ix_nI (by omega) (by decide)
      have hcl : (nI j).toNatClampNeg = j := nI_clamp hj
      have hin : f_M_in (nI j) 0 (n - 1) = some 1 := by
        unfold f_M_in
        rw [if_neg z, hn, pmI_sub]
        obtain ⟨M, rfl⟩ : ∃ i, N = i + 1 := ⟨N - 1, by omega⟩
        rw [if_neg (show ¬ pmI (M + 1) < nI j from nI_nlt (a := M) (by omega) (by omega))]
      refine Or.inl ⟨if O j = p1 then 1 else 0, upd O j p1, ?_, ?_, ?_, ?_, wfm_on Hw hp⟩
      · unfold t_G_turn; rw [if_neg z, if_pos hlt]
      · unfold f_G_turn
        simp only [if_neg z, if_pos hlt, h90, fg_og_tt, hcl, hnar]
        split <;> rfl
      · unfold f_M_turn
        simp only [hin, fg_ob_ss, if_neg i10, rf_00, if_true, h90, fg_og_tt, hcl, hnar]
        split <;> rfl
      · split
        · exact Or.inr rfl
        · exact Or.inl rfl
    · have hlt : ¬ nI j < n := by rw [hn]; exact nI_nlt q hj
      have hin : f_M_in (nI j) 0 (n - 1) = some 0 := by
        unfold f_M_in
        rw [if_neg z, hn, pmI_sub, if_pos]
        cases N with
        | zero => exact nI_lt_m1 hj
        | succ M => exact nI_lt (by omega) hj
      refine Or.inr ⟨?_, 0, ?_⟩
      · unfold t_G_turn; rw [if_neg z, if_neg hlt]
      · unfold f_M_turn
        simp only [hin, fg_ob_ss, if_true, rf_10, if_neg i10]
theorem op_clear {B E C O : fg_A} {n : Int32} {N : Nat} (_ : wfm B E C O n N) : wfm B E C O 0 0 := ⟨by omega, rfl, fun r hr => absurd hr (Nat.not_lt_zero r)⟩
theorem wfm_0 : wfm (fun _ => 0) (fun _ => 0) (fun _ => 0) (fun _ => 0) 0 0 := ⟨by omega, rfl, fun r hr => absurd hr (Nat.not_lt_zero r)⟩
end
section
/-! The law's loop as a function: it goes through for every script. -/
theorem lg_cmp_self (x : Int64) : lg_cmp x x = 0 := by
  unfold lg_cmp
  rw [if_neg (by intro h; exact absurd h (by rw [gt_iff_lt, Int64.lt_iff_toInt_lt]; omega)), if_pos rfl]
theorem updL0 (w : fg_J) (x : Int64) : vp_updL w 0 x 0 = x := pk_uLs
theorem pl_ix {it ln j : Nat} (h : 4 * it + 4 ≤ ln) (hl : ln ≤ 2048) (hj : j < 4) : ix (nI (4 * it) + nI j) ln = true := by rw [nI_add]; exact ix_nI (by omega) (by omega)
theorem pl_law (xs : Nat → Int32) {ln : Nat} (hl : ln ≤ 2048) :
    ∀ (k it N : Nat) (B E C O : fg_A) (n : Int32) (gF gL gV mF mL mV : fg_A) (mt : Int32) (w : fg_J), 4 * it ≤ ln → 512 < it + k → wfm B E C O n N →
      f_law xs ln k (nI (4 * it)) B E C O n gF gL gV mt n B E C O mF mL mV w = some () := by
  intro k
  induction k with
  | zero => intro it N B E C O n gF gL gV mF mL mV mt w h4 hk; omega
  | succ k ih =>
    intro it N B E C O n gF gL gV mF mL mV mt w h4 hk Hw
    rw [f_law]
    by_cases hc : (Int32.ofNat ln - 4) < nI (4 * it)
    · rw [if_pos hc]
    · rw [if_neg hc]
      have hin : 4 * it + 4 ≤ ln := by
        rcases Nat.lt_or_ge (4 * it + 3) ln with q | q
        · omega
        · exfalso
          apply hc
          rw [Int32.lt_iff_toInt_lt, nI_toInt (by omega)]
          have e1 : (Int32.ofNat ln).toInt = ln := nI_toInt (n := ln) (by omega)
          have e2 : (4 : Int32).toInt = 4 := by decide
          rw [ti_sub (by omega) (by omega) (by omega) (by omega), e1, e2]
          omega
      have x0 : ix (nI (4 * it)) ln = true := ix_nI (by omega) (by omega)
      have x1 : ix (nI (4 * it) + 1) ln = true := pl_ix (j := 1) hin hl (by omega)
      have x2 : ix (nI (4 * it) + 2) ln = true := pl_ix (j := 2) hin hl (by omega)
      have x3 : ix (nI (4 * it) + 3) ln = true := pl_ix (j := 3) hin hl (by omega)
      have nx : nI (4 * it) + 4 = nI (4 * (it + 1)) := by rw [show (4 : Int32) = nI 4 from rfl, nI_add]; rfl
      have go : ∀ (N : Nat) (B E C O : fg_A) (n : Int32) (gF gL gV mF mL mV : fg_A) (mt : Int32) (w : fg_J), wfm B E C O n N → f_law xs ln k (nI (4 * (it + 1))) B E C O n gF gL gV mt n B E C O mF mL mV w = some () :=
        fun N B E C O n gF gL gV mF mL mV mt w Hw => ih (it + 1) N B E C O n gF gL gV mF mL mV mt w (by omega) (by omega) Hw
      simp only [x0, x1, x2, x3, fg_og_tt, nx]
      generalize (xs (nI (4 * it)).toNatClampNeg &&& 15) = v
      generalize xs (nI (4 * it) + 1).toNatClampNeg = p0
      generalize xs (nI (4 * it) + 2).toNatClampNeg = p1
      generalize xs (nI (4 * it) + 3).toNatClampNeg = p2
      have thr : ∀ z, f_M_thrown z = some z := fun _ => rfl
      have p01 : ¬ (0 : Int32) = 1 := by decide
      have p02 : ¬ (0 : Int32) = 2 := by decide
      have p10 : ¬ (1 : Int32) = 0 := by decide
      have p20 : ¬ (2 : Int32) = 0 := by decide
      have n10 : ¬ (1 : Nat) = 0 := by decide
      have n20 : ¬ (2 : Nat) = 0 := by decide
      by_cases h0 : v = 0
      · rw [if_pos h0]
        show f_law xs ln k (nI (4 * (it + 1))) B E C O 0 gF gL gV 0 0 B E C O mF mL mV w = some ()
        exact go 0 B E C O 0 gF gL gV mF mL mV 0 w (op_clear Hw)
      rw [if_neg h0]
      by_cases h1 : v = 1
      · rw [if_pos h1]
        rcases op_rule Hw p0 p1 p2 mt with ⟨r, B', E', C', O', n', N', a0, a1, a2, a3⟩ | ⟨a1, r, a2⟩ | ⟨a1, r, a2⟩
        · have hh : h_rule B E C O n p0 p1 p2 w = some (0, B', E', C', O', n', vp_updL w 0 r.toInt64) := by unfold h_rule; rw [a0, a1]; rfl
          simp only [hh, a2, fg_ob_ss, thr, if_true, updL0, lg_cmp_self]
          exact go N' B' E' C' O' n' gF gL gV mF mL mV 0 _ a3
        · have hh : h_rule B E C O n p0 p1 p2 w = some (1, B, E, C, O, n, w) := by unfold h_rule; rw [a1]; rfl
          simp only [hh, a2, fg_ob_ss, thr, if_true, if_neg p10]
          exact go N B E C O n gF gL gV mF mL mV 1 _ Hw
        · have hh : h_rule B E C O n p0 p1 p2 w = some (2, B, E, C, O, n, w) := by unfold h_rule; rw [a1]; rfl
          simp only [hh, a2, fg_ob_ss, thr, if_true, if_neg p20]
          exact go N B E C O n gF gL gV mF mL mV 2 _ Hw
      rw [if_neg h1]
      by_cases h2 : v = 2
      · rw [if_pos h2]
        have turn : ∀ z : Int32, (z = 0 ∨ z = 1) → ∃ r O' tt w', h_turn O n p0 z w = some (r, O', w') ∧ ∃ b, f_M_turn mt n O p0 z = some (b, tt, O') ∧ tt = r ∧ (r = 0 → (b = 0 ∧ w' 0 = 0) ∨ (b = 1 ∧ w' 0 = 1)) ∧ wfm B E C O' n N := fun z hz => by
          rcases op_turn Hw p0 z mt hz with ⟨r, O', a0, a1, a2, a3, a4⟩ | ⟨a1, r, a2⟩
          · refine ⟨0, O', 0, vp_updL w 0 (if r = 0 then 0 else 1), ?_, r, a2, rfl, fun _ => ?_, a4⟩
            · unfold h_turn; rw [a0, a1]; rfl
            · rw [updL0]
              rcases a3 with rfl | rfl
              · exact Or.inl ⟨rfl, rfl⟩
              · exact Or.inr ⟨rfl, rfl⟩
          · refine ⟨1, O, 1, w, ?_, r, a2, rfl, fun h => absurd h p10, Hw⟩
            unfold h_turn; rw [a1]; rfl
        have fin : ∀ (r b : Int32) (O' : fg_A) (w' : fg_J), (r = 0 → (b = 0 ∧ w' 0 = 0) ∨ (b = 1 ∧ w' 0 = 1)) → wfm B E C O' n N →
            (if r = 0 then if b = 0 then if lg_cmp (w' 0) 0 = 0 then f_law xs ln k (nI (4 * (it + 1))) B E C O' n gF gL gV r n B E C O' mF mL mV w' else none else if lg_cmp (w' 0) 1 = 0 then f_law xs ln k (nI (4 * (it + 1))) B E C O' n gF gL gV r n B E C O' mF mL mV w' else none else f_law xs ln k (nI (4 * (it + 1))) B E C O' n gF gL gV r n B E C O' mF mL mV w') = some () := fun r b O' w' hb hw' => by
          by_cases z : r = 0
          · rw [if_pos z]
            rcases hb z with ⟨rfl, h⟩ | ⟨rfl, h⟩
            · rw [if_pos rfl, h, lg_cmp_self, if_pos rfl]; exact go N B E C O' n gF gL gV mF mL mV r w' hw'
            · rw [if_neg p10, h, lg_cmp_self, if_pos rfl]; exact go N B E C O' n gF gL gV mF mL mV r w' hw'
          · rw [if_neg z]; exact go N B E C O' n gF gL gV mF mL mV r w' hw'
        by_cases z : p1 = 0
        · obtain ⟨r, O', tt, w', g1, b, g2, rfl, g3, g4⟩ := turn 0 (Or.inl rfl)
          simp only [if_pos z, g1, g2, fg_ob_ss, thr, if_true]
          exact fin _ b O' w' g3 g4
        · obtain ⟨r, O', tt, w', g1, b, g2, rfl, g3, g4⟩ := turn 1 (Or.inr rfl)
          simp only [if_neg z, g1, g2, fg_ob_ss, thr, if_true]
          exact fin _ b O' w' g3 g4
      rw [if_neg h2]
      by_cases h3 : v = 3
      · rw [if_pos h3]
        rcases op_length Hw p0 p1 gF mF mt with ⟨r, F', K', a0, a1, a2⟩ | ⟨a1, r, K', a2⟩
        · have hh : h_length B E O n gF p0 p1 w = some (0, F', vp_updL w 0 r.toInt64) := by unfold h_length; rw [a0, a1]; rfl
          simp only [hh, a2, fg_ob_ss, thr, if_true, updL0, lg_cmp_self]
          exact go N B E C O n F' gL gV K' mL mV 0 _ Hw
        · have hh : h_length B E O n gF p0 p1 w = some (1, gF, w) := by unfold h_length; rw [a1]; rfl
          simp only [hh, a2, fg_ob_ss, thr, if_true, if_neg p10]
          exact go N B E C O n gF gL gV K' mL mV 1 _ Hw
      rw [if_neg h3]
      by_cases h4' : v = 4
      · rw [if_pos h4']
        rcases op_step Hw p0 p1 p2 gF mF mt with ⟨r, F', K', a0, a1, a2⟩ | ⟨F', a1, r, K', a2⟩ | ⟨F', a1, r, K', a2⟩
        · have hh : h_step B E O n gF p0 p1 p2 w = some (0, F', vp_updL w 0 r.toInt64) := by unfold h_step; rw [a0, a1]; rfl
          simp only [hh, a2, fg_ob_ss, thr, if_true, updL0, lg_cmp_self]
          exact go N B E C O n F' gL gV K' mL mV 0 _ Hw
        · have hh : h_step B E O n gF p0 p1 p2 w = some (1, F', w) := by unfold h_step; rw [a1]; rfl
          simp only [hh, a2, fg_ob_ss, thr, if_true, if_neg p10]
          exact go N B E C O n F' gL gV K' mL mV 1 _ Hw
        · have hh : h_step B E O n gF p0 p1 p2 w = some (2, F', w) := by unfold h_step; rw [a1]; rfl
          simp only [hh, a2, fg_ob_ss, thr, if_true, if_neg p20]
          exact go N B E C O n F' gL gV K' mL mV 2 _ Hw
      rw [if_neg h4']
      by_cases h5 : v = 5
      · rw [if_pos h5]
        rcases op_passed Hw p0 p1 mF mt with ⟨r, K', a0, a1, a2⟩ | ⟨a1, r, K', a2⟩
        · have hh : h_passed B E O n p0 p1 w = some (0, vp_updL w 0 r.toInt64) := by unfold h_passed; rw [a0, a1]; rfl
          simp only [hh, a2, fg_ob_ss, thr, if_true, updL0, lg_cmp_self]
          exact go N B E C O n gF gL gV K' mL mV 0 _ Hw
        · have hh : h_passed B E O n p0 p1 w = some (1, w) := by unfold h_passed; rw [a1]; rfl
          simp only [hh, a2, fg_ob_ss, thr, if_true, if_neg p10]
          exact go N B E C O n gF gL gV K' mL mV 1 _ Hw
      rw [if_neg h5]
      by_cases h6 : v = 6
      · rw [if_pos h6]
        rcases op_circle Hw p0 mF mt with ⟨r, K', a0, a1, a2⟩ | ⟨a1, r, K', a2⟩
        · have hh : h_circle B E O n p0 w = some (0, vp_updL w 0 r.toInt64) := by unfold h_circle; rw [a0, a1]; rfl
          simp only [hh, a2, fg_ob_ss, thr, if_true, updL0, lg_cmp_self]
          exact go N B E C O n gF gL gV K' mL mV 0 _ Hw
        · have hh : h_circle B E O n p0 w = some (1, w) := by unfold h_circle; rw [a1]; rfl
          simp only [hh, a2, fg_ob_ss, thr, if_true, if_neg p10]
          exact go N B E C O n gF gL gV K' mL mV 1 _ Hw
      rw [if_neg h6]
      by_cases h7 : v = 7
      · rw [if_pos h7]
        obtain ⟨r, K', a1, a2⟩ := op_circles Hw mF mt
        simp only [a1, a2, fg_ob_ss, if_true]
        exact go N B E C O n gF gL gV K' mL mV 0 _ Hw
      rw [if_neg h7]
      by_cases h8 : v = 8
      · rw [if_pos h8]
        rcases op_cut Hw p0 p1 gL gV mL mV mt with ⟨r, L', V', L3, V3, a0, a1, a2⟩ | ⟨a1, r, L3, V3, a2⟩
        · have hh : h_cut B E C O n gL gV p0 p1 w = some (0, L', V', vp_updL w 0 r.toInt64) := by unfold h_cut; rw [a0, a1]; rfl
          simp only [hh, a2, fg_ob_ss, thr, if_true, updL0, lg_cmp_self]
          exact go N B E C O n gF L' V' mF L3 V3 0 _ Hw
        · have hh : h_cut B E C O n gL gV p0 p1 w = some (1, gL, gV, w) := by unfold h_cut; rw [a1]; rfl
          simp only [hh, a2, fg_ob_ss, thr, if_true, if_neg p10]
          exact go N B E C O n gF gL gV mF L3 V3 1 _ Hw
      rw [if_neg h8]
      by_cases h9 : v = 9
      · rw [if_pos h9]
        rcases op_cutRule Hw p0 p1 p2 gL gV mL mV mt with ⟨r, L', V', L3, V3, a0, a1, a2⟩ | ⟨a1, r, L3, V3, a2⟩
        · have hh : h_cutRule B E C O n gL gV p0 p1 p2 w = some (0, L', V', vp_updL w 0 r.toInt64) := by unfold h_cutRule; rw [a0, a1]; rfl
          simp only [hh, a2, fg_ob_ss, thr, if_true, updL0, lg_cmp_self]
          exact go N B E C O n gF L' V' mF L3 V3 0 _ Hw
        · have hh : h_cutRule B E C O n gL gV p0 p1 p2 w = some (1, gL, gV, w) := by unfold h_cutRule; rw [a1]; rfl
          simp only [hh, a2, fg_ob_ss, thr, if_true, if_neg p10]
          exact go N B E C O n gF gL gV mF L3 V3 1 _ Hw
      rw [if_neg h9]
      by_cases h10 : v = 10
      · rw [if_pos h10]
        rcases op_left Hw p0 p1 gL gV mL mV mt with ⟨r, L', V', L3, V3, a0, a1, a2⟩ | ⟨a1, r, L3, V3, a2⟩
        · have hh : h_left B E C O n gL gV p0 p1 w = some (0, L', V', vp_updL w 0 r.toInt64) := by unfold h_left; rw [a0, a1]; rfl
          simp only [hh, a2, fg_ob_ss, thr, if_true, updL0, lg_cmp_self]
          exact go N B E C O n gF L' V' mF L3 V3 0 _ Hw
        · have hh : h_left B E C O n gL gV p0 p1 w = some (1, gL, gV, w) := by unfold h_left; rw [a1]; rfl
          simp only [hh, a2, fg_ob_ss, thr, if_true, if_neg p10]
          exact go N B E C O n gF gL gV mF L3 V3 1 _ Hw
      rw [if_neg h10]
      exact go N B E C O n gF gL gV mF mL mV mt w Hw
end
