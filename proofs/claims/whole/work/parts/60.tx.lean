/-! What a throw needs of the start, and rows for throws and for calls that throw. -/
def xn : Nat → String
  | 0 => "java/lang/IllegalArgumentException"
  | 1 => "java/lang/UnsupportedOperationException"
  | _ => "java/lang/IndexOutOfBoundsException"
def xnm : List String := ["java/lang/RuntimeException", "java/lang/Exception"]
def tx_nw : List Cond := [.declares ⟨"java/lang/RuntimeException", "<init>", "()V"⟩, .declares ⟨"java/lang/RuntimeException", "<init>", "(Ljava/lang/String;)V"⟩, .declares ⟨"java/lang/Exception", "<init>", "()V"⟩, .declares ⟨"java/lang/Exception", "<init>", "(Ljava/lang/String;)V"⟩, .declares ⟨"java/lang/Throwable", "<init>", "()V"⟩, .declares ⟨"java/lang/Throwable", "<init>", "(Ljava/lang/String;)V"⟩, .castable "java/lang/IllegalArgumentException" "java/lang/IllegalArgumentException", .castable "java/lang/UnsupportedOperationException" "java/lang/UnsupportedOperationException", .castable "java/lang/IndexOutOfBoundsException" "java/lang/IndexOutOfBoundsException"]
def tx_str : List (Nat × String) := [(96, "no such node"), (98, "both nodes are one"), (42, "a cost is 1 to 9"), (49, "there are 90 rules"), (54, "no such rule"), (64, "the least way has no such rule"), (94, "k is below 0")]
theorem tx_nw_on : ∀ w ∈ tx_nw, w.onTables = true := by decide +kernel
def tx_N (f : Nat → Nat) (U : State) : Prop := (∀ w ∈ tx_nw, va_Nw w U) ∧ ∀ q ∈ tx_str, vk_R R_G q.1 q.2 (f q.1) U
theorem tx_N.warm {f : Nat → Nat} {s U : State} (hW : s.WarmedH U.vm) (h : tx_N f s) : tx_N f U := by
  refine ⟨fun w hw => ?_, fun q hq => vk_R.warm hW (h.2 q hq)⟩
  have h0 := h.1 w hw
  have hk : (∃ x, w = .declares x) ∨ ∃ C T, w = .castable C T := by
    simp only [tx_nw, List.mem_cons, List.not_mem_nil, or_false] at hw
    rcases hw with rfl | rfl | rfl | rfl | rfl | rfl | rfl | rfl | rfl
    <;> first | exact Or.inl ⟨_, rfl⟩ | exact Or.inr ⟨_, _, rfl⟩
  rcases hk with ⟨x, rfl⟩ | ⟨C, T, rfl⟩
  · exact va_Nw.warmD hW h0
  · exact va_Nw.warmC hW h0
theorem tx_N.same {f : Nat → Nat} {u U : State} (h : U.vm = u.vm) (hN : tx_N f u) : tx_N f U := ⟨fun w hw => va_Nw.same (tx_nw_on w hw) h.symm (hN.1 w hw), fun q hq => vk_R.same h (hN.2 q hq)⟩
def tx_E (f : Nat → Nat) (A : Nat → Prop) (U : State) (H : Heap) : Prop := vx_Zq Bundle.tN "UNASSIGNED_STACK" Bundle.steD A U H ∧ vx_Zq Bundle.tN "SUPPRESSED_SENTINEL" Bundle.listD A U H ∧ tx_N f U
theorem tx_E.use {f : Nat → Nat} {A B : Nat → Prop} {s U : State} {H0 H : Heap} {locs : List Loc} (h : tx_E f A s H0) (hS : va_S A H0 H locs) (hAB : ∀ q, B q → A q) (hW : s.WarmedH U.vm) : tx_E f B U H :=
  ⟨((h.1.kept hS.2.1).narrow hAB).moved hW.alike, ((h.2.1.kept hS.2.1).narrow hAB).moved hW.alike, h.2.2.warm hW⟩
theorem tx_E.calling {f : Nat → Nat} {A : Nat → Prop} {U : State} {g : JFrame} {mk : MethodId} {a : Array Value} (h : tx_E f A U U.heap) : tx_E f A (U.calling g mk a) (U.calling g mk a).heap :=
  ⟨vx_Zq.moved (u := U) (U := U.calling g mk a) (Vm.Alike.refl U.vm) h.1, vx_Zq.moved (u := U) (U := U.calling g mk a) (Vm.Alike.refl U.vm) h.2.1, tx_N.same (u := U) (U := U.calling g mk a) rfl h.2.2⟩
def tx_ok (ik ic : Nat) (X : String) : Prop := Bundle.fit X = true ∧ Cond.classLink R_G ik X ∈ gw ∧ Cond.initialized X ∈ gw ∧ (∀ w ∈ (vx_atS R_G ic X xnm).filter goodWord, w ∈ gw) ∧ (∀ w ∈ (vx_atS R_G ic X xnm).filter (fun w => !goodWord w), w ∈ tx_nw) ∧ ∀ w ∈ Cond.classLink R_G ik X :: Cond.initialized X :: vx_atS R_G ic X xnm, vx_ot w = true
theorem tx_mk {ik ic : Nat} {X : String} (h1 : Bundle.fit X = true) (h2 : Cond.classLink R_G ik X ∈ lw_tbl) (h3 : Cond.initialized X ∈ lw_tbl) (h4 : ∀ w ∈ (vx_atS R_G ic X xnm).filter goodWord, w ∈ lw_tbl) (h5 : ∀ w ∈ (vx_atS R_G ic X xnm).filter (fun w => !goodWord w), w ∈ tx_nw) (h6 : ∀ w ∈ Cond.classLink R_G ik X :: Cond.initialized X :: vx_atS R_G ic X xnm, vx_ot w = true) : tx_ok ik ic X :=
  ⟨h1, List.mem_filter.mpr ⟨h2, rfl⟩, List.mem_filter.mpr ⟨h3, rfl⟩, fun w hw => List.mem_filter.mpr ⟨h4 w hw, (List.mem_filter.mp hw).2⟩, h5, h6⟩
theorem tx_ok0 : tx_ok 40 44 (xn 0) := tx_mk (by decide +kernel) (by decide +kernel) (by decide +kernel) (by decide +kernel) (by decide +kernel) (by decide +kernel)
theorem tx_ok1 : tx_ok 47 51 (xn 1) := tx_mk (by decide +kernel) (by decide +kernel) (by decide +kernel) (by decide +kernel) (by decide +kernel) (by decide +kernel)
theorem tx_ok2 : tx_ok 52 56 (xn 2) := tx_mk (by decide +kernel) (by decide +kernel) (by decide +kernel) (by decide +kernel) (by decide +kernel) (by decide +kernel)
theorem xnm_fit : ∀ n ∈ xnm, Bundle.fit n = true := by decide +kernel
abbrev tS_Q (sz : Nat) : Array Value → State → Outcome → State → Prop := va_Qv (fun (_ : Unit) => False) (fun _ _ => True) (va_A [] sz)
abbrev tS_X (sz cd : Nat) : String → State → State → Prop := vx_X (fun (_ : Unit) => True) (fun E _ _ => E = xn cd) (va_A [] sz)
def tS_Pc (f : Nat → Nat) (sz : Nat) (av : List Value) : Array Value → State → Prop := va_Pc av (fun U => U.heap.size = sz ∧ tx_E f (va_A [] sz) U U.heap)
theorem tS_pre {f : Nat → Nat} {s : State} {H : Heap} {locs : List Loc} {A : Nat → Prop} {As : List Value} (hS : va_S A s.heap H locs) (hA : ∀ q, s.heap.size ≤ q → A q) (hX : tx_E f A s s.heap) : PreS s H (tS_Pc f H.size As) As :=
  ⟨fun a U g mk q => ⟨q.1, q.2.1, q.2.2.calling⟩, fun U hU hW => ⟨rfl, by rw [hU], by
    rw [hU]
    refine hX.use hS (fun q hq => ?_) hW
    rcases hq with ⟨k, e, hk⟩ | hq
    · cases hk
    · exact hA q (Nat.le_trans hS.1 hq)⟩⟩
abbrev tG_Q (A : Nat → Prop) : Array Value → State → Outcome → State → Prop := va_Qi (fun (_ : Int32) (_ : Unit) => False) (fun _ _ => True) A
section TX
variable {p : Program} {l : Launch} {e : Env} {R : Room} {s : State} {m : MethodId} {args : Array Value} {below : List Frame} {meth : Method} {c : Code} {H : Heap} {locs : List Loc} {A : Nat → Prop} {a : Array Value} {pc cd : Nat} {ls : Array Slot} {st0 rest : List Value} {Qc : Array Value → State → Outcome → State → Prop} {f : Nat → Nat}
/-- a static call that throws, not caught here -/
theorem tx_c {XC : String → State → State → Prop} (hr : vx_Run p l e R s m args below meth c H locs 0 0 1 6 (F0 m pc ls st0) rest (tS_Q H.size a) (tS_X H.size cd) (va_A [] H.size)) (hS : va_S A s.heap H locs) (hA : ∀ q, s.heap.size ≤ q → A q) (ht : ∀ x ∈ c.exceptionTable.toList, False) (hlocks : meth.locks = false)
    (hx : ∀ t : State, s.vm.Alike t.vm → (∀ q : Nat, q < H.size → t.heap[q]? = H[q]?) → va_F A s t → XC (xn cd) s t) :
    W p l e R s m args below meth c H locs 0 0 (vx_MQ below Qc XC args s 1 6 A) (F0 m pc ls st0) := by
  have hN : ∀ q : Nat, q < H.size → ¬ va_A [] H.size q := fun q hq z => by
    rcases z with ⟨k, e9, hk⟩ | z
    · cases hk
    · omega
  have hf : ∀ q, va_A [] H.size q → A q := fun q z => by
    rcases z with ⟨k, e9, hk⟩ | z
    · cases hk
    · exact hA q (Nat.le_trans hS.1 z)
  refine vx_callv hr hS (fun q hq z => (hN q hq z).elim) hf (fun q hq z => (hN q hq z).elim) ?_ (fun u t H1 locs1 _ _ hF => hF.elim)
  intro E ce q9 u t H1 locs1 ht1 hvm _ hB hz hk hS1 hc hv hcl
  cases hB
  exact vx_out (fun x hx => (ht x hx).elim) hlocks hc hv hcl (fun T hT hal => hx T hal (fun q hq => by rw [hT]; exact hk q hq (hN q hq)) (hS1.F hT)) hS1.2.2 (Nat.le_refl _) (Nat.le_refl _)
/-- a throw -/
theorem tx_n {XC : String → State → State → Prop} {cc : ByteArray} {ik is ic : Nat} {tx : String} (hx : p.tables.exec = Jvm.exec) (hb : c.code = cc) (hst : l.stackTraces = false) (hown : s.vm.findClass R_G = some m.cls) (hts : ∀ w ∈ gw, w.before args s = true) (hX : tx_E f A s s.heap) (hS : va_S A s.heap H locs) (ht : ∀ x ∈ c.exceptionTable.toList, False) (hlocks : meth.locks = false) (hsz : ls.size = c.maxLocals)
    (ho : tx_ok ik ic (xn cd)) (hs : (is, tx) ∈ tx_str) (d0 : decode cc pc = .ok (.new ik, 3)) (d3 : decode cc (pc + 3) = .ok (.dup, 1)) (d4 : decode cc (pc + 4) = .ok (.ldc is, 2)) (d6 : decode cc (pc + 6) = .ok (.invokespecial ic, 3)) (d9 : decode cc (pc + 9) = .ok (.athrow, 1))
    (hR : 5 < R.frames ∧ 82 ≤ R.locals ∧ 1 ≤ R.cells ∧ 6 ≤ R.slots)
    (hk : ∀ t : State, s.vm.Alike t.vm → (∀ q : Nat, q < H.size → t.heap[q]? = H[q]?) → va_F A s t → XC (xn cd) s t) :
    W p l e R s m args below meth c H locs 0 0 (vx_MQ below Qc XC args s 1 6 A) (F0 m pc ls []) := by
  obtain ⟨h1, h2, h3, h4, h5, h6⟩ := ho
  refine vx_throwS (names := xnm) (A := A) (sa := f is) (text := tx) hx hb hst hown h1 xnm_fit (hts _ h2) (hts _ h3) (hX.2.2.2 (is, tx) hs) (vx_hat (fun w hw => hts w (h4 w hw)) h5 (fun w hw => va_Nw.use (tx_nw_on w hw) (hX.2.2.1 w hw))) h6 hX.1 hX.2.1 hS hsz d0 d3 d4 d6 d9 (fun x hx => (ht x hx).elim) hR.1 (Nat.le_trans (Nat.le_of_ble_eq_true rfl) hR.2.1) (by omega) (by omega) hlocks ?_ hS.2.2 (Nat.le_refl _) (Nat.le_refl _)
  intro t hal hz hq
  refine hk t hal hq ⟨Nat.le_trans hS.1 hz, fun q hq1 hq2 => ?_⟩
  rw [hq q (Nat.lt_of_lt_of_le hq1 hS.1)]
  exact hS.2.1 q hq1 hq2
end TX
theorem fg_keepP {D : va_G} {cl : List vw_C} {ws : va_W} {H H1 : Heap} (h : va_P D cl ws H) (hq : ∀ q : Nat, q < H.size → H1[q]? = H[q]?) : va_P D cl ws H1 := h.kept (fun k q hk => hq q.1 (vx_lt h hk))
