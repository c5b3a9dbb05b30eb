/-! THE CLAIM OUT OF ONE WALK OF THE LAW'S BODY. Your part is whole_start (and what it stands on); all else here is the same for every law, but numbers. -/
def R_law : String := "NoonFieldsLaw"
def lw_P (b : Addr) (xs : List Int32) (args : Array Value) (s : State) : Prop := args = #[.ref b] ∧ s.IntsAt b xs ∧ xs.length ≤ 3072 ∧ (Jvm.Cond.and given_1 narrow_1).before args s = true
def lw_Q (_ : Array Value) (s : State) (o : Outcome) (t : State) : Prop := o = .returned (some (.int 1)) ∧ Framed s o t [] 600000 7302249
def lw_Z (below : List Frame) (a : Array Value) (s : State) : State → Prop := fun t => ∃ o, t.status = .running ∧ Ended t below o ∧ lw_Q a s o t
/-- the law's own end, with 1 on the stack, nothing written that was there before, its room as the claim has it -/
theorem lw_ret {p : Program} {l : Launch} {e : Env} {s : State} {m : MethodId} {below : List Frame} {meth : Method} {c : Code} {b : Nat} (hx : p.tables.exec = Jvm.exec) (hb : c.code = code) (hr : meth.sig.returnType = ret) (hlocks : meth.locks = false) {pc : Nat} {H : Heap} {ls : Array Slot} (hdg : decode code pc = .ok (.ireturn, 1)) : W p l e room_1 s m #[Value.ref b] below meth c H [] 600000 7302249 (lw_Z below #[Value.ref b] s) (F0 m pc ls [.int 1]) := by
  intro T hT X
  obtain ⟨fs, hret, hrun, hended, hW, hframe⟩ := X.leave (v := some (.int 1)) (hlocks := hlocks) (fun h => by rw [hr] at h; cases h)
  have hmeth' : T.vm.method? m = some meth := X.method'
  refine ⟨T.setFrames fs, ?_, .returned (some (.int 1)), hrun, hended, rfl, ⟨_, rfl⟩, hW, hframe⟩
  jvm_step X.here [X.here.top, hx, hb, hdg, hmeth', hr, ret, narrow_b1]
  (try refine ⟨rfl, ?_⟩); (try refine ⟨rfl, ?_⟩)
  first | (intro acts; rw [hret _ acts rfl rfl rfl]) | rw [hret _ _ rfl rfl rfl]
  exact Steps.refl _
/-- what holds at the law's entry: the machine, the code, the tables' words (any of lw_tbl by 'hts w (by decide +kernel)'), the script of L ints xs at the cell b, what the Statement gives of the start (any of its parts by flat_of_before) -/
def lw_At (p : Program) (s : State) (m : MethodId) (meth : Method) (c : Code) (b L : Nat) (xs : Nat → Int32) : Prop :=
  p.tables.exec = Jvm.exec ∧ c.code = code ∧ meth.sig.returnType = ret ∧ c.maxLocals = 4 ∧ s.vm.findClass R_law = some m.cls ∧ (∀ w ∈ lw_tbl, w.before #[Value.ref b] s = true) ∧ va_X b L xs s s.heap ∧ b < s.heap.size ∧ meth.locks = false ∧ (Jvm.Cond.and given_1 narrow_1).before #[Value.ref b] s = true
/-! the law's start: the classes' numbers, the arrays, the texts, out of the tables' words -/
theorem cl_len : classes.length = 13 := rfl
set_option maxRecDepth 100000 in
theorem cl_inst : ∀ ci, ci < 13 → Cond.instantiable (gcl ci).1 (gcl ci).2.2 ∈ WS := by decide +kernel
theorem six {i : Nat} (h : i < 6) : i = 0 ∨ i = 1 ∨ i = 2 ∨ i = 3 ∨ i = 4 ∨ i = 5 := by omega
section ST
variable {s : State} {args : Array Value}
theorem st_D (hW : ∀ w ∈ WS, w.before args s = true) : ∃ D : va_G, ∀ (c : Nat) (q : vw_C), classes[c]? = some q → u_Kn s q.1 q.2.1 q.2.2 (D.1 c) (D.2 c) := by
  have h0 : ∀ ci : Nat, ∃ q : ClassId × (Nat → Nat), ci < 13 → u_Kn s (gcl ci).1 (gcl ci).2.1 (gcl ci).2.2 q.1 q.2 := by
    intro ci
    by_cases h : ci < 13
    · obtain ⟨cC, iS, hk⟩ := u_known hW (cl_in h) (hW _ (cl_inst ci h))
      exact ⟨(cC, iS), fun _ => hk⟩
    · exact ⟨(0, fun _ => 0), fun q => absurd q h⟩
  obtain ⟨f, hf⟩ := Classical.axiomOfChoice h0
  refine ⟨(fun c => (f c).1, fun c => (f c).2), fun c q hq => ?_⟩
  have hc : c < 13 := (List.getElem?_eq_some_iff.mp hq).1
  rw [cl_at hc] at hq
  cases hq
  exact hf c hc
def tyOk (s : State) (cA : ClassId) (ty : FieldType) : Prop := ArrOfT s cA ty ∧ va_RA s cA ty
theorem st_p {t : FieldType} (ht : t = .int ∨ t = .boolean) (h : (Cond.arrayClass t).before args s = true) : ∃ cA, tyOk s cA t := by
  obtain ⟨c, k, comp, h1, h2, h3⟩ := Cond.arrayClass_spec h
  refine ⟨c, fun n z => ⟨(fun q h => (by cases h)), k, h2, comp, h3⟩, ?_⟩
  rcases ht with rfl | rfl
  · exact h1
  · exact h1
theorem st_o {C : String} (h : (Cond.arrayOver (.object C)).before args s = true) : ∃ cA, tyOk s cA (.object C) := by
  obtain ⟨comp, c, k, h1, -, h2, h3, h4⟩ := Cond.arrayOver_spec h
  exact ⟨c, fun n z => ⟨(fun q h => (by cases h)), k, h2, comp, h3⟩, k, comp, h2, h3, h1, h4⟩
theorem st_a (h : (Cond.arrayOver (.array .int)).before args s = true) : ∃ cA, tyOk s cA (.array .int) := by
  obtain ⟨comp, c, k, h1, -, h2, h3, h4⟩ := arrayOverA_spec h
  exact ⟨c, fun n z => ⟨(fun q h => (by cases h)), k, h2, comp, h3⟩, h4⟩
theorem st_T (hT : ∀ w ∈ lw_tbl, w.before args s = true) : ∃ T : Nat → ClassId, ∀ ty, ty < 6 → tyOk s (T ty) (atys ty) := by
  have h0 : ∀ ty : Nat, ∃ cA : ClassId, ty < 6 → tyOk s cA (atys ty) := by
    intro ty
    by_cases h : ty < 6
    · rcases six h with rfl | rfl | rfl | rfl | rfl | rfl
      · obtain ⟨c, hc⟩ := st_p (t := .int) (Or.inl rfl) (hT _ (tbl_in 164 (by decide +kernel)))
        exact ⟨c, fun _ => hc⟩
      · obtain ⟨c, hc⟩ := st_p (t := .boolean) (Or.inr rfl) (hT _ (tbl_in 296 (by decide +kernel)))
        exact ⟨c, fun _ => hc⟩
      · obtain ⟨c, hc⟩ := st_o (C := "NoonFields$Neighbour") (hT _ (tbl_in 96 (by decide +kernel)))
        exact ⟨c, fun _ => hc⟩
      · obtain ⟨c, hc⟩ := st_a (hT _ (tbl_in 145 (by decide +kernel)))
        exact ⟨c, fun _ => hc⟩
      · obtain ⟨c, hc⟩ := st_o (C := "NoonFields$Sheet") (hT _ (tbl_in 272 (by decide +kernel)))
        exact ⟨c, fun _ => hc⟩
      · obtain ⟨c, hc⟩ := st_o (C := "NoonFields$Slot") (hT _ (tbl_in 274 (by decide +kernel)))
        exact ⟨c, fun _ => hc⟩
    · exact ⟨0, fun q => absurd q h⟩
  exact Classical.axiomOfChoice h0
theorem st_SA (hT : ∀ w ∈ lw_tbl, w.before args s = true) : SA s := by
  refine ⟨va_AO.of (hT _ (tbl_in 96 (by decide +kernel))), va_AO.of (hT _ (tbl_in 272 (by decide +kernel))), va_AO.of (hT _ (tbl_in 274 (by decide +kernel))), over_moved (a := args) (a' := #[]) (u := s) (E := s) (Vm.Alike.refl _) (hT _ (tbl_in 145 (by decide +kernel))), fun C hC => ?_⟩
  simp only [List.mem_cons, List.not_mem_nil, or_false] at hC
  rcases hC with rfl | rfl | rfl | rfl | rfl
  · exact va_Nw.of rfl (hT _ (tbl_in 1552 (by decide +kernel)))
  · exact va_Nw.of rfl (hT _ (tbl_in 1553 (by decide +kernel)))
  · exact va_Nw.of rfl (hT _ (tbl_in 1554 (by decide +kernel)))
  · exact va_Nw.of rfl (hT _ (tbl_in 1555 (by decide +kernel)))
  · exact va_Nw.of rfl (hT _ (tbl_in 1556 (by decide +kernel)))
def tmS (i : Nat) : Term := .string sOwn (sIdx.getD i 0)
theorem st_S (hg : (Jvm.Cond.and given_1 narrow_1).before args s = true) {A : Nat → Prop} (hA : ∀ a : Nat, a < s.heap.size → ¬ A a) : ∃ adK adV : Nat → Nat, vk_S 6 sLen sByt adK adV A s s.heap ∧ ∀ i : Nat, i < 6 → (tmS i).eval args s none [] s = some (.ref (adK i)) := by
  have hs := flat_of_before _ hg
  refine vk_Sof ?_ ?_ ?_ ?_ ?_ ?_ ?_ hA
  · intro i hi
    rcases six hi with rfl | rfl | rfl | rfl | rfl | rfl <;> decide
  · intro i hi
    rcases six hi with rfl | rfl | rfl | rfl | rfl | rfl <;> exact hs _ (by decide +kernel)
  · intro i hi
    rcases six hi with rfl | rfl | rfl | rfl | rfl | rfl <;> exact hs _ (by decide +kernel)
  · intro i hi
    rcases six hi with rfl | rfl | rfl | rfl | rfl | rfl <;> exact hs _ (by decide +kernel)
  · intro i hi
    rcases six hi with rfl | rfl | rfl | rfl | rfl | rfl <;> exact hs _ (by decide +kernel)
  · intro i hi j hj
    have h4 : sLen.getD i 0 ≤ 4 := by rcases six hi with rfl | rfl | rfl | rfl | rfl | rfl <;> decide
    rcases six hi with rfl | rfl | rfl | rfl | rfl | rfl <;> rcases (show j = 0 ∨ j = 1 ∨ j = 2 ∨ j = 3 by omega) with rfl | rfl | rfl | rfl <;> first | exact absurd hj (by decide) | exact hs _ (by decide +kernel)
  · intro i j hi hj hij
    rcases six hi with rfl | rfl | rfl | rfl | rfl | rfl <;> rcases six hj with rfl | rfl | rfl | rfl | rfl | rfl <;> first | exact absurd rfl hij | exact Or.inl (hs _ (by decide +kernel)) | exact Or.inr (hs _ (by decide +kernel))
end ST
/-- the numbers of this start, and what every instruction of the law may use -/
theorem st_g {p : Program} {e : Env} {s : State} {m : MethodId} {below : List Frame} {meth : Method} {c : Code} (l : Launch) {b L : Nat} {xs : Nat → Int32} (C0 : lw_At p s m meth c b L xs) (Q : State → Prop) :
    ∃ g : CX, cxl g = l ∧ cxb g = s.heap.size ∧ cxV g 50 = b ∧ Gc ((p, e, room_1, s, m, #[.ref b]), (below, meth, c, Q), (g, 0, 135, 4)) R_law code 300 := by
  obtain ⟨hx, hb, hr, hml, hown, hts, hX, hbl, hlk, hg⟩ := C0
  have hW : ∀ w ∈ WS, w.before #[Value.ref b] s = true := fun w hw => hts w (ws_tbl hw)
  obtain ⟨D, hD⟩ := st_D hW
  obtain ⟨T, hT⟩ := st_T hts
  have hA : ∀ a : Nat, a < s.heap.size → ¬ s.heap.size ≤ a := fun a h1 h2 => absurd h1 (Nat.not_lt.mpr h2)
  obtain ⟨adK, adV, hS, hE⟩ := st_S (A := fun q => s.heap.size ≤ q) hg hA
  have hs := flat_of_before _ hg
  have hco : va_Z "java/lang/String" "COMPACT_STRINGS" "Z" (.int 1) (fun q => s.heap.size ≤ q) s s.heap := va_Zof (hts _ (tbl_in 771 (by decide +kernel))) (hts _ (tbl_in 82 (by decide +kernel))) (va_eqt (hs _ (by decide +kernel))) hA
  have hfo : va_Zq "jdk/internal/util/Preconditions" "SIOOBE_FORMATTER" "Ljava/util/function/BiFunction;" (fun q => s.heap.size ≤ q) s s.heap := va_Zqof (hts _ (tbl_in 787 (by decide +kernel))) (hts _ (tbl_in 84 (by decide +kernel))) (hs _ (by decide +kernel)) hA
  obtain ⟨t, v, hv, hvt⟩ : ∃ (t : Nat) (v : Value), va_Z "jdk/internal/util/Preconditions" "SIOOBE_FORMATTER" "Ljava/util/function/BiFunction;" v (fun q => s.heap.size ≤ q) s s.heap ∧ (v = .null ∨ v = .ref t) := by
    rcases hfo with h | ⟨t, h⟩
    · exact ⟨0, .null, h, Or.inl rfl⟩
    · exact ⟨t, _, h, Or.inr rfl⟩
  have hSR : ∀ i, i < 6 → vk_R sOwn (sIdx.getD i 0) (sTxt.getD i "") (adK i) s := by
    intro i hi
    have h2 := hE i hi
    rcases six hi with rfl | rfl | rfl | rfl | rfl | rfl
    · exact vk_R.of (hts _ (tbl_in 757 (by decide +kernel))) h2
    · exact vk_R.of (hts _ (tbl_in 810 (by decide +kernel))) h2
    · exact vk_R.of (hts _ (tbl_in 811 (by decide +kernel))) h2
    · exact vk_R.of (hts _ (tbl_in 836 (by decide +kernel))) h2
    · exact vk_R.of (hts _ (tbl_in 837 (by decide +kernel))) h2
    · exact vk_R.of (hts _ (tbl_in 838 (by decide +kernel))) h2
  refine ⟨(l, D, T, s.heap.size, adK, fun i => if i < 6 then adV i else if i = 50 then b else t), rfl, rfl, rfl, hx, hb, hml, hown, hW, ⟨hD, fun k q hk => ?_⟩, ⟨⟨fun i hi => ?_, hS.2⟩, hco, ?_⟩, hSR, st_SA hts, rfl, Nat.zero_le _, by show 300 ≤ 2048; decide, by show 64 * 300 ≤ 84000; decide, by show 135 - 0 ≤ 600000; decide, by show ss 135 - ss 0 ≤ 7302249; decide +kernel⟩
  · have hk6 : k < 6 := by
      have := (List.getElem?_eq_some_iff.mp hk).1
      simpa [tysL] using this
    rw [tysL_at _ hk6] at hk
    cases hk
    exact hT k hk6
  · have := hS.1 i hi
    rw [show cxV ((l, D, T, s.heap.size, adK, fun i => if i < 6 then adV i else if i = 50 then b else t) : CX) i = adV i from if_pos hi]
    exact this
  · rcases hvt with rfl | rfl
    · exact ⟨.null, hv, Or.inl rfl⟩
    · exact ⟨.ref 2151, hv, Or.inr ⟨_, rfl⟩⟩
