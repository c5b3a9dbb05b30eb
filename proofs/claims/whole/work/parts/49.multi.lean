/-! an array of arrays, made at once -/
def mzc (cA N h0 i : Nat) : Cell := arrV cA N (fun j => if j < i then .ref (h0 + 1 + j) else .null)
theorem mzc_next (cA N h0 i : Nat) : (mzc cA N h0 i).setSlot i (.ref (h0 + 1 + i)) = mzc cA N h0 (i + 1) := by
  unfold mzc
  rw [arrV_store]
  congr 1
  funext j
  show (if j = i then Value.ref (h0 + 1 + i) else if j < i then .ref (h0 + 1 + j) else .null) = if j < i + 1 then .ref (h0 + 1 + j) else .null
  by_cases h : j = i
  · subst h
    rw [if_pos rfl, if_pos (by omega)]
  · rw [if_neg h]
    by_cases h2 : j < i
    · rw [if_pos h2, if_pos (by omega)]
    · rw [if_neg h2, if_neg (by omega)]
/-- the state when i of the N inner arrays are there -/
def mzs (T : State) (cA cI N M : Nat) : Nat → State
  | 0 => T.pushCell (mzc cA N T.heap.size 0)
  | i + 1 => ((mzs T cA cI N M i).pushCell (arrV cI M (fun _ => .int 0))).setCell T.heap.size (mzc cA N T.heap.size (i + 1))
theorem mzs_sz (T : State) (cA cI N M : Nat) : ∀ i, (mzs T cA cI N M i).heap.size = T.heap.size + 1 + i ∧ (mzs T cA cI N M i).vm = T.vm ∧ (mzs T cA cI N M i).slotsUsed = T.slotsUsed + N + i * M
  | 0 => ⟨by simp [mzs], rfl, by simp [mzs, mzc, arrV]⟩
  | i + 1 => by
    obtain ⟨a, b, c⟩ := mzs_sz T cA cI N M i
    refine ⟨by simp [mzs, State.setCell, a]; omega, by simp [mzs, b], ?_⟩
    rw [Nat.succ_mul]
    simp [mzs, c, arrV]
    omega
theorem mzs_lt (T : State) (cA cI N M i : Nat) {a : Nat} (ha : a < T.heap.size + 1 + i) : a < (mzs T cA cI N M i).heap.size := by
  rw [(mzs_sz T cA cI N M i).1]
  exact ha
theorem mzs_old (T : State) (cA cI N M : Nat) {a : Nat} (ha : a < T.heap.size) : ∀ i, (mzs T cA cI N M i).heap[a]? = T.heap[a]?
  | 0 => State.heap_pushCell_of_lt _ _ ha
  | i + 1 => by
    show (((mzs T cA cI N M i).pushCell _).setCell T.heap.size _).heap[a]? = _
    rw [State.heap_setCell_other (Nat.ne_of_gt ha), State.heap_pushCell_of_lt (h := mzs_lt T cA cI N M i (by omega))]
    exact mzs_old T cA cI N M ha i
theorem mzs_out (T : State) (cA cI N M : Nat) : ∀ i, (mzs T cA cI N M i).heap[T.heap.size]? = some (mzc cA N T.heap.size i)
  | 0 => State.heap_pushCell_size _ _
  | i + 1 => by
    have ih := mzs_out T cA cI N M i
    have : ((mzs T cA cI N M i).pushCell (arrV cI M (fun _ => .int 0))).heap[T.heap.size]? = some (mzc cA N T.heap.size i) := by
      rw [State.heap_pushCell_of_lt (h := mzs_lt T cA cI N M i (by omega))]
      exact ih
    exact State.heap_setCell_self this
theorem mzs_in (T : State) (cA cI N M : Nat) : ∀ i j, j < i → (mzs T cA cI N M i).heap[T.heap.size + 1 + j]? = some (arrV cI M (fun _ => .int 0))
  | 0, _, h => absurd h (Nat.not_lt_zero _)
  | i + 1, j, h => by
    show (((mzs T cA cI N M i).pushCell _).setCell T.heap.size _).heap[T.heap.size + 1 + j]? = _
    rw [State.heap_setCell_other (show T.heap.size ≠ T.heap.size + 1 + j by omega)]
    rcases Nat.lt_or_ge j i with hj | hj
    · rw [State.heap_pushCell_of_lt (h := mzs_lt T cA cI N M i (by omega))]
      exact mzs_in T cA cI N M i j hj
    · have e : j = i := by omega
      subst e
      rw [← (mzs_sz T cA cI N M j).1]
      exact State.heap_pushCell_size _ _
theorem mzs_top (T : State) (f : JFrame) (cA cI N M : Nat) : ∀ i, mzs (T.setTop f) cA cI N M i = (mzs T cA cI N M i).setTop f
  | 0 => rfl
  | i + 1 => by simp only [mzs, mzs_top T f cA cI N M i, State.heap_setTop, State.pushCell_setTop, State.setCell_setTop]
section MZ
variable {p : Program} {l : Launch} {e : Env} {R : Room} {s : State} {m : MethodId} {args : Array Value} {below : List Frame} {meth : Method} {c : Code} {T : State} {locs : List Loc} {cells slots : Nat}
theorem mzs_stand (X : Stand p l e R s m args below meth c T locs cells slots) (cA cI N M : Nat) :
    ∀ i, Stand p l e R s m args below meth c (mzs T cA cI N M i) (locs ++ (List.range i).map fun j => ⟨T.heap.size, j⟩) (cells + 1 + i) (slots + N + i * M)
  | 0 => by
    have h := X.pushed (mzc cA N T.heap.size 0)
    rw [show (mzc cA N T.heap.size 0).slots.size = N from arrV_size _ _ _] at h
    simpa [mzs] using h
  | i + 1 => by
    have Xi := mzs_stand X cA cI N M i
    have hcell : ((mzs T cA cI N M i).pushCell (arrV cI M (fun _ => .int 0))).heap[T.heap.size]? = some (mzc cA N T.heap.size i) := by
      rw [State.heap_pushCell_of_lt (h := mzs_lt T cA cI N M i (by omega))]
      exact mzs_out T cA cI N M i
    have h := (Xi.pushed (arrV cI M (fun _ => .int 0))).stored hcell i (.ref (T.heap.size + 1 + i))
    rw [arrV_size, mzc_next] at h
    rw [show (locs ++ (List.range (i + 1)).map fun j => (⟨T.heap.size, j⟩ : Loc)) = (locs ++ (List.range i).map fun j => (⟨T.heap.size, j⟩ : Loc)) ++ [⟨T.heap.size, i⟩] by simp [List.range_succ, List.append_assoc], show slots + N + (i + 1) * M = slots + N + i * M + M by rw [Nat.succ_mul]; omega]
    exact h
end MZ
section MW
variable {E : CtlPost} {e : Env} {d : Bool} {acts : List Action} {s : State}
theorem wp_arr {c comp : ClassId} {k : Class} {type : FieldType} {len : Nat} {init : Value} (hk : s.vm.classes[c]? = some k) (hkind : k.kind = .array comp type) (hlimit : ¬ len > e.platform.arrayLengthLimit) (hheap : ¬ len * componentBytes type > e.platform.maxHeapBytes)
    (hfit : fits type init = true) {Q : Addr → Pre} (h1 : s.heap.size < e.platform.maxCells) (h2 : s.slotsUsed + len ≤ e.platform.maxSlots) (hq : ∀ acts', Q s.heap.size d acts' (s.pushCell (arrV c len (fun _ => init)))) :
    wp (Jvm.newArray c len init) Q E e d acts s :=
  W.newArray_of hk hkind hlimit hheap h1 h2 hfit (fun acts' => by
    have := hq acts'
    rw [← arrV_new] at this
    exact this)
theorem wp_mz {cA cI cc : ClassId} {k kc : Class} {N M : Nat} {n m : Int32} (hn : n = nI N) (hm : m = nI M) (hN : N < 4000) (hM : M < 4000) (hk : s.vm.classes[cA]? = some k) (hkind : k.kind = .array cI (.array .int)) (hkc : s.vm.classes[cI]? = some kc) (hkindc : kc.kind = .array cc .int)
    (hl1 : ¬ N > e.platform.arrayLengthLimit) (hh1 : ¬ N * componentBytes (.array .int) > e.platform.maxHeapBytes) (hl2 : ¬ M > e.platform.arrayLengthLimit) (hh2 : ¬ M * componentBytes .int > e.platform.maxHeapBytes)
    (hc : s.heap.size + 1 + N ≤ e.platform.maxCells) (hs : s.slotsUsed + N + N * M ≤ e.platform.maxSlots) {Q : Addr → Pre} (hq : ∀ d' acts', Q s.heap.size d' acts' (mzs s cA cI N M N)) :
    wp (Op.multianewarray.make cA [n, m]) Q E e d acts s := by
  have hn0 : ¬ n < 0 := by rw [hn]; exact Int32.not_lt.mpr (nI_pos' (by omega))
  have hm0 : ¬ m < 0 := by rw [hm]; exact Int32.not_lt.mpr (nI_pos' (by omega))
  have hnc : n.toNatClampNeg = N := by rw [hn]; exact nI_clamp (by omega)
  have hmc : m.toNatClampNeg = M := by rw [hm]; exact nI_clamp (by omega)
  have hfind : ([m].find? (· < 0)) = none := by simp [hm0]
  have hz : N * M ≥ 0 := Nat.zero_le _
  rw [Op.multianewarray.make]
  simp only [wp_bind', W.ite, hn0, if_false, wp_pure', W.theClass, hk, hkind, Option.some.injEq, exists_eq_left']
  rw [hnc]
  refine wp_arr hk hkind hl1 hh1 rfl (by omega) (by omega) (fun acts1 => ?_)
  simp only [hfind]
  rw [ite_self, wp_bind', Std.Legacy.Range.forIn_eq_forIn_range']
  rw [show ([:N] : Std.Legacy.Range).size = N by simp [Std.Legacy.Range.size]]
  show wp (forIn (List.range' 0 N 1) PUnit.unit _) _ E e d acts1 _
  refine wp_forIn_inv (fun rest s' => ∃ i, i ≤ N ∧ rest = List.range' i (N - i) ∧ s' = mzs s cA cI N M i) _ _ ⟨0, Nat.zero_le _, rfl, ?_⟩ ?_ ?_
  · show s.pushCell (arrV cA N _) = s.pushCell (mzc cA N s.heap.size 0)
    rfl
  · rintro x rest s' d' acts' Q' ⟨i, hi, hl, rfl⟩ hnext
    have hlt : i < N := by
      rcases Nat.lt_or_ge i N with h | h
      · exact h
      · rw [show N - i = 0 from by omega] at hl
        simp at hl
    rw [show N - i = (N - (i + 1)) + 1 from by omega, List.range'_succ] at hl
    obtain ⟨rfl, hrest⟩ := List.cons.inj hl
    obtain ⟨f1, f3, f4⟩ := mzs_sz s cA cI N M x
    have hmul : x * M + M ≤ N * M := by
      have := Nat.mul_le_mul_right M (show x + 1 ≤ N from hlt)
      rw [Nat.succ_mul] at this
      exact this
    simp only [wp_bind']
    rw [Op.multianewarray.make]
    simp only [wp_bind', W.ite, hm0, if_false, wp_pure', W.theClass, f3, hkc, hkindc, Option.some.injEq, exists_eq_left']
    rw [hmc]
    refine wp_arr (by rw [f3]; exact hkc) hkindc hl2 hh2 rfl (by rw [f1]; omega) (by rw [f4]; omega) (fun acts2 => ?_)
    simp only [wp_bind', W.writeLoc, wp_pure']
    refine ⟨mzc cA N s.heap.size x, ?_, (fun q => by cases q), by rw [show (mzc cA N s.heap.size x).slots.size = N from arrV_size _ _ _]; exact hlt, ?_, hnext _ _ _ ⟨x + 1, hlt, hrest, ?_⟩⟩
    · rw [State.heap_pushCell_of_lt (h := mzs_lt s cA cI N M x (by omega))]
      exact mzs_out s cA cI N M x
    · simp [State.fitsSlot, State.slotType?, f3, mzc, arrV, hk, hkind]
      rfl
    · rw [f1, mzc_next]
      rfl
  · rintro s' d' acts' ⟨i, hi, hl, rfl⟩
    have hiN : i = N := by
      rcases Nat.lt_or_ge i N with h | h
      · rw [show N - i = (N - (i + 1)) + 1 from by omega, List.range'_succ] at hl
        cases hl
      · omega
    subst hiN
    simp only [wp_pure']
    exact hq _ _
end MW
section MX
variable {p : Program} {l : Launch} {e : Env} {R : Room} {s : State} {m : MethodId} {args : Array Value} {below : List Frame} {meth : Method} {c : Code} {H : Heap} {locs : List Loc} {cells slots : Nat} {Q : State → Prop}
theorem w_multi {cc0 : ByteArray} (hexec : p.tables.exec = Jvm.exec) (hb : c.code = cc0) {own : String} {index : Nat} (hown : s.vm.findClass own = some m.cls) (hclink : (Cond.classLink own index "[[I").before args s = true) (hover : (Cond.arrayOver (.array .int)).before args s = true) (harr : (Cond.arrayClass .int).before args s = true)
    {pc : Nat} {ls : Array Slot} {rest : List Value} (hdg : decode cc0 pc = .ok (.multianewarray index 2, 4)) {N M : Nat} (hN : N < 4000) (hM : M < 4000) (hcells : cells + (1 + N) ≤ R.cells) (hslots : slots + (N + N * M) ≤ R.slots) {h : Nat} (hh : H.size = h)
    (kk : ∀ (cA cI : ClassId) (H1 : Heap) (L1 : List Loc), s.vm.findClass "[[I" = some cA → s.vm.findClass "[I" = some cI → H1.size = h + 1 + N → (∀ a : Nat, a < h → H1[a]? = H[a]?) → H1[h]? = some (mzc cA N h N) → (∀ j, j < N → H1[h + 1 + j]? = some (arrV cI M (fun _ => .int 0))) → (∀ q ∈ L1, q.base = h) →
      W p l e R s m args below meth c H1 (locs ++ L1) (cells + 1 + N) (slots + N + N * M) Q (F0 m (pc + 4) ls (.ref h :: rest))) : W p l e R s m args below meth c H locs cells slots Q (F0 m pc ls (.int (nI M) :: .int (nI N) :: rest)) := by
  intro T hT X
  subst hT
  subst hb
  subst hh
  have hpl : e.platform.magicAccessors = ({} : Platform).magicAccessors := by rw [X.admits.platform]
  obtain ⟨comp, cA, kA, hcomp, hidx, hkA, hkindA, hnameA⟩ := arrayOverA_spec hover
  obtain ⟨comp', kC, cc, hcomp', hkC, hkindC⟩ := Cond.arrayClass_spec harr
  have ecomp : comp' = comp := Option.some.inj (hcomp'.symm.trans hcomp)
  subst ecomp
  obtain ⟨c0, hfc0, hcl⟩ := Cond.classLink_spec hown hclink e.platform hpl
  cases hnameA.symm.trans hfc0
  obtain ⟨hg₁, hwarm₁, hready₁⟩ := State.classEntry (e := e) X.warmed hcl
  generalize T.vm.noted m.cls index (.cls cA) = vm₁ at hg₁ hwarm₁ hready₁
  have hal : s.vm.Alike vm₁ := hwarm₁.alike
  obtain ⟨kA₁, hkA₁, heA⟩ := hal.2.2 _ _ hkA
  obtain ⟨kC₁, hkC₁, heC⟩ := hal.2.2 _ _ hkC
  have hkindA₁ : kA₁.kind = .array comp' (.array .int) := by rw [heA]; exact hkindA
  have hkindC₁ : kC₁.kind = .array cc .int := by rw [heC]; exact hkindC
  have X₁ := X.noted hwarm₁
  obtain ⟨hr1, hr2⟩ := X.roomAbove hcells hslots
  have XF := mzs_stand X₁ cA comp' N M N
  obtain ⟨z1, -, -⟩ := mzs_sz (T.setVm vm₁) cA comp' N M N
  have hk := kk cA comp' (mzs (T.setVm vm₁) cA comp' N M N).heap ((List.range N).map fun j => ⟨T.heap.size, j⟩) hnameA hcomp z1 (fun a ha => mzs_old (T.setVm vm₁) cA comp' N M ha N) (mzs_out (T.setVm vm₁) cA comp' N M N) (fun j hj => mzs_in (T.setVm vm₁) cA comp' N M N j hj) (fun q hq => by
    obtain ⟨j, -, rfl⟩ := List.mem_map.mp hq
    rfl)
  obtain ⟨t, a1, b1⟩ := hk _ rfl XF
  refine ⟨t, ?_, b1⟩
  have hl1 : ¬ N > e.platform.arrayLengthLimit := by rw [Launch.admits_arrayLengthLimit X.admits]; omega
  have hh1 : ¬ N * componentBytes (.array .int) > e.platform.maxHeapBytes := by
    rw [Launch.admits_maxHeapBytes X.admits]
    show ¬ N * 4 > 536870912
    omega
  have hl2 : ¬ M > e.platform.arrayLengthLimit := by rw [Launch.admits_arrayLengthLimit X.admits]; omega
  have hh2 : ¬ M * componentBytes .int > e.platform.maxHeapBytes := by
    rw [Launch.admits_maxHeapBytes X.admits]
    show ¬ M * 4 > 536870912
    omega
  jvm_step X.here [hexec, hdg]
  simp only [Op.multianewarray.sem, wp_bind', W.resolveClassAt_links (mm := m) (t := T.setTop (F0 m pc ls (.int (nI M) :: .int (nI N) :: rest))) (vm' := vm₁) (State.method?_setTop (F0 m pc ls (.int (nI M) :: .int (nI N) :: rest)) X.here.top) hg₁]
  rw [W.popN, if_neg (by decide)]
  refine ⟨_, State.topJava?_setTop' (s := T.setVm vm₁) _ X.here.top, [.int (nI N), .int (nI M)], rest, rfl, rfl, ?_⟩
  simp only [List.mapM_cons, List.mapM_nil, wp_bind', wp_pure']
  refine wp_mz (N := N) (M := M) (k := kA₁) (kc := kC₁) (cI := comp') (cc := cc) rfl rfl hN hM hkA₁ hkindA₁ hkC₁ hkindC₁ hl1 hh1 hl2 hh2 (by show T.heap.size + 1 + _ ≤ _; omega) (by show T.slotsUsed + _ + _ ≤ _; omega) (fun d' acts' => ?_)
  have eS : ∀ f1 f2 : JFrame, ((T.setTop f1).setVm vm₁).setTop f2 = (T.setVm vm₁).setTop f2 := fun f1 f2 => by
    show ((T.setVm vm₁).setTop f1).setTop _ = _
    rw [State.setTop_setTop]
  rw [eS, mzs_top]
  simp only [wp_bind', W.mark, W.pushRef, State.topJava?_setTop' _ XF.here.top, Option.some.injEq, exists_eq_left', State.setTop_setTop, State.heap_setTop]
  intro acts
  simp [jvm, XF.here.top]
  exact a1
end MX
