/-! A METHOD'S WALK OVER ONE FIXED WORLD: the cells of the class's object and of the reference's, in the order of their making, at base + 0, base + 1, ..; values of references are these numbers. -/
abbrev WS : List Cond := lw_tbl.filter goodWord
theorem ws_in {w : Cond} (i : Nat) (h : lw_tbl[i]? = some w) (h2 : goodWord w = true) : w ∈ WS := List.mem_filter.mpr ⟨tbl_in i h, h2⟩
theorem ws_ok {w : Cond} (h : w ∈ WS) : (w.onTables && w.keeps) = true ∨ ∃ ty, w = .arrayClass ty := good_of_word (List.mem_filter.mp h).2
theorem ws_tbl {w : Cond} (h : w ∈ WS) : w ∈ lw_tbl := (List.mem_filter.mp h).1
def wsy (μ : MD) : List Cond := Cond.code μ.1 μ.2.1 μ.2.2.1 μ.2.2.2 :: WS
abbrev Hp : Type := Nat → Nat → Value
/-- launch, class numbers and slots, array classes, base, addresses of the texts' objects and of their bytes -/
abbrev CX : Type := Launch × va_G × (Nat → ClassId) × Nat × (Nat → Nat) × (Nat → Nat)
abbrev cxl (g : CX) : Launch := g.1
abbrev cxD (g : CX) : va_G := g.2.1
abbrev cxT (g : CX) : Nat → ClassId := g.2.2.1
abbrev cxb (g : CX) : Nat := g.2.2.2.1
abbrev cxK (g : CX) : Nat → Nat := g.2.2.2.2.1
abbrev cxV (g : CX) : Nat → Nat := g.2.2.2.2.2
def adr (g : CX) (k : Nat) : Nat := if k < 2000 then cxb g + k else if k < 2100 then cxK g (k - 2000) else cxV g (k - 2100)
def vV (g : CX) : Value → Value
  | .ref k => .ref (adr g k)
  | v => v
theorem vV_cat (g : CX) (v : Value) : (vV g v).category = v.category := by cases v <;> rfl
theorem vV_int (g : CX) (x : Int32) : vV g (.int x) = .int x := rfl
theorem adr_lt {g : CX} {k : Nat} (h : k < 2000) : adr g k = cxb g + k := if_pos h
/-- the shapes of the cells: an object of a class, or an array of a type and a length -/
abbrev Shp : Type := Nat ⊕ (Nat × Nat)
def wshp : List Shp := [.inl 8, .inr (3, 6), .inr (0, 8), .inr (0, 8), .inr (0, 8), .inr (0, 8), .inr (0, 8), .inr (0, 8), .inr (3, 3), .inr (0, 9), .inr (0, 9), .inr (0, 9), .inr (0, 8), .inr (0, 8), .inr (0, 3)]
def sshp : List Shp := [.inl 10, .inr (0, 24), .inr (1, 24)]
def nshp : List Shp := [.inl 0, .inr (2, 6), .inl 1, .inl 2, .inl 3, .inl 4, .inl 5, .inl 6, .inl 7, .inr (3, 14)] ++ List.replicate 14 (.inr (0, 96)) ++ [.inr (0, 14), .inr (0, 14), .inr (0, 14), .inr (0, 96)] ++ wshp ++ wshp ++ wshp ++
  [.inl 9, .inr (0, 96), .inr (0, 96), .inr (4, 4), .inr (5, 5), .inr (0, 60), .inr (0, 64), .inr (0, 45)] ++ sshp ++ sshp ++ sshp ++ sshp ++ (.inl 11 :: sshp) ++ (.inl 11 :: sshp) ++ (.inl 11 :: sshp) ++ (.inl 11 :: sshp) ++ (.inl 11 :: sshp)
def mshp : List Shp := [.inl 12, .inr (0, 3090), .inr (0, 3090), .inr (0, 3090), .inr (0, 4), .inr (0, 4), .inr (0, 96), .inr (0, 5), .inr (0, 5), .inr (0, 5), .inr (0, 5), .inr (0, 120), .inr (0, 8), .inr (0, 72), .inr (0, 90), .inr (0, 64), .inr (0, 96), .inr (0, 128), .inr (0, 100), .inr (0, 24), .inr (0, 60), .inr (0, 60)]
def shp (k : Nat) : Shp := (nshp ++ mshp).getD k (.inr (0, 0))
def ssz : Shp → Nat
  | .inl ci => nfs ci
  | .inr q => q.2
def ss : Nat → Nat
  | 0 => 0
  | n + 1 => ss n + ssz (shp n)
theorem ss_le {a b : Nat} (h : a ≤ b) : ss a ≤ ss b := by
  induction h with
  | refl => exact Nat.le_refl _
  | step _ ih => exact Nat.le_trans ih (Nat.le_add_right _ _)
def atys : Nat → FieldType
  | 0 => .int
  | 1 => .boolean
  | 2 => .object "NoonFields$Neighbour"
  | 3 => .array .int
  | 4 => .object "NoonFields$Sheet"
  | _ => .object "NoonFields$Slot"
def tysL (g : CX) : List (ClassId × FieldType) := (List.range 6).map fun j => (cxT g j, atys j)
theorem tysL_at (g : CX) {j : Nat} (h : j < 6) : (tysL g)[j]? = some (cxT g j, atys j) := by
  unfold tysL
  rw [List.getElem?_map, List.getElem?_range h]
  rfl
def iv : Value → Int32
  | .int x => x
  | _ => 0
def rv (g : CX) : Value → Option Nat
  | .ref k => some (adr g k)
  | _ => none
def arrE (g : CX) (ty len : Nat) (f : Nat → Value) : vp_A := if ty ≤ 1 then (len, .inl (fun j => iv (f j))) else (len, .inr (.inr (.inr (.inr (fun j => rv g (f j))))))
def entS (g : CX) (s : Shp) (f : Nat → Value) : va_E := match s with
  | .inl ci => .inr (ci, (List.range (nfs ci)).map (fun j => vV g (f j)))
  | .inr q => .inl (cxT g q.1, arrE g q.1 q.2 f)
def wsL (g : CX) (n : Nat) (h : Hp) : va_W := (List.range n).map (fun k => (cxb g + k, entS g (shp k) (h k)))
theorem wsL_at {g : CX} {n k : Nat} {h : Hp} (hk : k < n) : (wsL g n h)[k]? = some (cxb g + k, entS g (shp k) (h k)) := by
  unfold wsL
  rw [List.getElem?_map, List.getElem?_range hk]
  rfl
theorem wsL_inv {g : CX} {n k : Nat} {h : Hp} {q : Nat × va_E} (hq : (wsL g n h)[k]? = some q) : k < n ∧ q = (cxb g + k, entS g (shp k) (h k)) := by
  by_cases hk : k < n
  · rw [wsL_at hk] at hq
    cases hq
    exact ⟨hk, rfl⟩
  · unfold wsL at hq
    rw [List.getElem?_map, List.getElem?_eq_none (by rw [List.length_range]; omega)] at hq
    cases hq
def fr (g : CX) : Nat → Prop := fun q => cxb g ≤ q
theorem wsL_D (g : CX) (n : Nat) (h : Hp) : va_D (fr g) (wsL g n h) := by
  refine ⟨fun i j p q hi hj hpq => ?_, fun k q hk => ?_⟩
  · obtain ⟨-, rfl⟩ := wsL_inv hi
    obtain ⟨-, rfl⟩ := wsL_inv hj
    simp only at hpq
    omega
  · obtain ⟨-, rfl⟩ := wsL_inv hk
    exact Nat.le_add_right _ _
theorem wsL_set {g : CX} {n k : Nat} {h h' : Hp} {e : va_E} (hk : k < n) (he : e = entS g (shp k) (h' k)) (ho : ∀ j, j ≠ k → h' j = h j) : (wsL g n h).set k (cxb g + k, e) = wsL g n h' := by
  apply List.ext_getElem?
  intro j
  by_cases hj : j < n
  · rw [wsL_at hj]
    by_cases hjk : j = k
    · subst hjk
      rw [List.getElem?_set_self (by simp [wsL, hj]), he]
    · rw [List.getElem?_set_ne (Ne.symm hjk), wsL_at hj, ho j hjk]
  · rw [List.getElem?_eq_none (by simp [wsL]; omega), List.getElem?_eq_none (by simp [wsL]; omega)]
theorem wsL_succ (g : CX) (n : Nat) (h : Hp) : wsL g (n + 1) h = wsL g n h ++ [(cxb g + n, entS g (shp n) (h n))] := by
  unfold wsL
  rw [List.range_succ, List.map_append]
  rfl
def updh (h : Hp) (k j : Nat) (v : Value) : Hp := fun a b => if a = k ∧ b = j then v else h a b
theorem updh_ne {h : Hp} {k j a : Nat} {v : Value} (q : a ≠ k) : updh h k j v a = h a := by
  funext b
  simp [updh, q]
theorem updh_at {h : Hp} {k j : Nat} {v : Value} : updh h k j v k = fun b => if b = j then v else h k b := by
  funext b
  simp [updh]
/-- the texts: class, entry, the text, its length, its bytes -/
def sOwn : String := "NoonFields$Tape"
def sIdx : List Nat := [55, 61, 63, 106, 108, 110]
def sTxt : List String := ["walk", "toll", "fine", "dch", "sl", "hc"]
def sLen : List Nat := [4, 4, 4, 3, 2, 2]
def sByt : List (List Int32) := [[119, 97, 108, 107], [116, 111, 108, 108], [102, 105, 110, 101], [100, 99, 104], [115, 108], [104, 99]]
def SR (g : CX) (U : State) : Prop := ∀ i, i < 6 → vk_R sOwn (sIdx.getD i 0) (sTxt.getD i "") (cxK g i) U
def SA (U : State) : Prop := va_AO "NoonFields$Neighbour" U ∧ va_AO "NoonFields$Sheet" U ∧ va_AO "NoonFields$Slot" U ∧ (Cond.arrayOver (.array .int)).before #[] U = true ∧ ∀ C : String, C ∈ ["NoonFields$Lame", "NoonFields$Runner", "NoonFields$Old", "NoonFields$Child", "NoonFields$Hermit"] → va_Nw (.castable C "NoonFields$Neighbour") U
theorem SA.warm {s U : State} (hW : s.WarmedH U.vm) (h : SA s) : SA U := ⟨h.1.moved hW.alike, h.2.1.moved hW.alike, h.2.2.1.moved hW.alike, over_moved (a := #[]) (a' := #[]) hW.alike h.2.2.2.1, fun C hC => (h.2.2.2.2 C hC).warmC hW⟩
def VKS (g : CX) (U : State) (H : Heap) : Prop := vk_S 6 sLen sByt (cxK g) (cxV g) (fr g) U H ∧ va_Z "java/lang/String" "COMPACT_STRINGS" "Z" (.int 1) (fr g) U H ∧ ∃ v : Value, va_Z "jdk/internal/util/Preconditions" "SIOOBE_FORMATTER" "Ljava/util/function/BiFunction;" (vV g v) (fr g) U H ∧ (v = .null ∨ ∃ k, v = .ref k)
theorem VKS.moved {g : CX} {u U : State} {H : Heap} (hvm : u.vm.Alike U.vm) (h : VKS g u H) : VKS g U H := ⟨h.1.moved hvm, h.2.1.moved hvm, h.2.2.imp fun _ q => ⟨q.1.moved hvm, q.2⟩⟩
theorem VKS.kept {g : CX} {U : State} {H H1 : Heap} (h : VKS g U H) (hq : ∀ a : Nat, a < H.size → ¬ fr g a → H1[a]? = H[a]?) : VKS g U H1 := ⟨h.1.kept hq, h.2.1.kept hq, h.2.2.imp fun _ q => ⟨q.1.kept hq, q.2⟩⟩
def Held (g : CX) (n : Nat) (h : Hp) (U : State) : Prop :=
  U.heap.size = cxb g + n ∧ va_P (cxD g) classes (wsL g n h) U.heap ∧ va_K (cxD g) classes (tysL g) U ∧ VKS g U U.heap ∧ SR g U ∧ SA U
def Qd (g : CX) (n : Nat) (Post : Option Value → Hp → Prop) : Array Value → State → Outcome → State → Prop := fun _ st oc t =>
  ∃ (r : Option Value) (h : Hp), oc = .returned (r.map (vV g)) ∧ Post r h ∧ va_P (cxD g) classes (wsL g n h) t.heap ∧ va_F (fr g) st t
def rmd (d n n' : Nat) : Room := { frames := d, cells := n' - n, slots := ss n' - ss n, locals := 64 * d }
/-- the method μ, from av and the world h of n cells, comes back with an answer and a world of n' cells of which Post holds; it nests d deep at most -/
def Runs (g : CX) (d : Nat) (μ : MD) (av : List Value) (n : Nat) (h : Hp) (n' : Nat) (Post : Option Value → Hp → Prop) : Prop :=
  Met (cxl g) μ.1 (wsy μ) (rmd d n n') (va_Pc (av.map (vV g)) (Held g n h)) (Qd g n' Post) (n' - n) (ss n' - ss n) (fr g)
/-- a walk's surroundings -/
abbrev KX : Type := (Program × Env × Room × State × MethodId × Array Value) × (List Frame × Method × Code × (State → Prop)) × (CX × Nat × Nat × Nat)
abbrev kp (κ : KX) : Program := κ.1.1
abbrev ke (κ : KX) : Env := κ.1.2.1
abbrev kR (κ : KX) : Room := κ.1.2.2.1
abbrev ks (κ : KX) : State := κ.1.2.2.2.1
abbrev km (κ : KX) : MethodId := κ.1.2.2.2.2.1
abbrev ka (κ : KX) : Array Value := κ.1.2.2.2.2.2
abbrev kbel (κ : KX) : List Frame := κ.2.1.1
abbrev kme (κ : KX) : Method := κ.2.1.2.1
abbrev kc (κ : KX) : Code := κ.2.1.2.2.1
abbrev kQ (κ : KX) : State → Prop := κ.2.1.2.2.2
abbrev kg (κ : KX) : CX := κ.2.2.1
/-- the cells at the start, at the end at most, the locals -/
abbrev k0 (κ : KX) : Nat := κ.2.2.2.1
abbrev kx (κ : KX) : Nat := κ.2.2.2.2.1
abbrev kn (κ : KX) : Nat := κ.2.2.2.2.2
def lcl (g : CX) : Nat → List (Option Value) → List (Nat × Value)
  | _, [] => []
  | i, none :: l => lcl g (i + 1) l
  | i, some v :: l => (i, vV g v) :: lcl g (i + 1) l
def WX (κ : KX) (n pc : Nat) (L : List (Option Value)) (st : List Value) (H : Heap) (locs : List Loc) (ls : Array Slot) : Prop :=
  lv_has ls (kn κ) (lcl (kg κ) 0 L) → W (kp κ) (cxl (kg κ)) (ke κ) (kR κ) (ks κ) (km κ) (ka κ) (kbel κ) (kme κ) (kc κ) H locs (n - k0 κ) (ss n - ss (k0 κ)) (kQ κ) (F0 (km κ) pc ls (st.map (vV (kg κ))))
/-- THE WALK stands at pc, with these locals, this stack and this world: it comes to its end -/
def X (κ : KX) (n pc : Nat) (L : List (Option Value)) (st : List Value) (h : Hp) : Prop :=
  ∀ (H : Heap) (locs : List Loc) (ls : Array Slot), k0 κ ≤ n → va_P (cxD (kg κ)) classes (wsL (kg κ) n h) H → va_S (fr (kg κ)) (ks κ).heap H locs → WX κ n pc L st H locs ls
/-- what every instruction may use -/
def Gc (κ : KX) (own : String) (b : ByteArray) (d : Nat) : Prop :=
  (kp κ).tables.exec = Jvm.exec ∧ (kc κ).code = b ∧ (kc κ).maxLocals = kn κ ∧ (ks κ).vm.findClass own = some (km κ).cls ∧ (∀ w ∈ WS, w.before (ka κ) (ks κ) = true) ∧
  va_K (cxD (kg κ)) classes (tysL (kg κ)) (ks κ) ∧ VKS (kg κ) (ks κ) (ks κ).heap ∧ SR (kg κ) (ks κ) ∧ SA (ks κ) ∧
  (ks κ).heap.size = cxb (kg κ) + k0 κ ∧ k0 κ ≤ kx κ ∧ d ≤ (kR κ).frames ∧ 64 * d ≤ (kR κ).locals ∧ kx κ - k0 κ ≤ (kR κ).cells ∧ ss (kx κ) - ss (k0 κ) ≤ (kR κ).slots
section XB
variable {κ : KX} {own : String} {b : ByteArray} {d : Nat}
theorem Gc.exec (G : Gc κ own b d) : (kp κ).tables.exec = Jvm.exec := G.1
theorem Gc.code (G : Gc κ own b d) : (kc κ).code = b := G.2.1
theorem Gc.maxL (G : Gc κ own b d) : (kc κ).maxLocals = kn κ := G.2.2.1
theorem Gc.owns (G : Gc κ own b d) : (ks κ).vm.findClass own = some (km κ).cls := G.2.2.2.1
theorem Gc.words (G : Gc κ own b d) : ∀ w ∈ WS, w.before (ka κ) (ks κ) = true := G.2.2.2.2.1
theorem Gc.hK (G : Gc κ own b d) : va_K (cxD (kg κ)) classes (tysL (kg κ)) (ks κ) := G.2.2.2.2.2.1
theorem Gc.hE (G : Gc κ own b d) : VKS (kg κ) (ks κ) (ks κ).heap := G.2.2.2.2.2.2.1
theorem Gc.hR (G : Gc κ own b d) : SR (kg κ) (ks κ) := G.2.2.2.2.2.2.2.1
theorem Gc.hA (G : Gc κ own b d) : SA (ks κ) := G.2.2.2.2.2.2.2.2.1
theorem Gc.size (G : Gc κ own b d) : (ks κ).heap.size = cxb (kg κ) + k0 κ := G.2.2.2.2.2.2.2.2.2.1
theorem Gc.le (G : Gc κ own b d) : k0 κ ≤ kx κ := G.2.2.2.2.2.2.2.2.2.2.1
theorem Gc.frames (G : Gc κ own b d) : d ≤ (kR κ).frames := G.2.2.2.2.2.2.2.2.2.2.2.1
theorem Gc.locals (G : Gc κ own b d) : 64 * d ≤ (kR κ).locals := G.2.2.2.2.2.2.2.2.2.2.2.2.1
theorem Gc.cells (G : Gc κ own b d) : kx κ - k0 κ ≤ (kR κ).cells := G.2.2.2.2.2.2.2.2.2.2.2.2.2.1
theorem Gc.slots (G : Gc κ own b d) : ss (kx κ) - ss (k0 κ) ≤ (kR κ).slots := G.2.2.2.2.2.2.2.2.2.2.2.2.2.2
theorem Gc.free (G : Gc κ own b d) : ∀ q, (ks κ).heap.size ≤ q → fr (kg κ) q := fun q h => Nat.le_trans (by rw [G.size]; exact Nat.le_add_right _ _) h
/-- an instruction's row: at pc stands ins, the next one stands at q -/
def dc (b : ByteArray) (pc q : Nat) (ins : Instr) (len : Nat) : Prop := decode b pc = .ok (ins, len) ∧ pc + len = q
def db (b : ByteArray) (pc q t : Nat) (ins : Instr) (len : Nat) (off : Int) : Prop := decode b pc = .ok (ins, len) ∧ pc + len = q ∧ (pc : Int) + off = (t : Int)
variable {n pc q t : Nat} {L : List (Option Value)} {st : List Value} {h : Hp}
/-! locals -/
theorem lcl_mem {g : CX} : ∀ (L : List (Option Value)) (j i : Nat) (v : Value), L[i]? = some (some v) → (j + i, vV g v) ∈ lcl g j L
  | [], j, i, v, h => by simp at h
  | none :: l, j, 0, v, h => by simp at h
  | some w :: l, j, 0, v, h => by
    simp at h
    subst h
    exact List.mem_cons_self
  | none :: l, j, i + 1, v, h => by
    have := lcl_mem (g := g) l (j + 1) i v (by simpa using h)
    rw [show j + (i + 1) = j + 1 + i by omega]
    exact this
  | some w :: l, j, i + 1, v, h => by
    have := lcl_mem (g := g) l (j + 1) i v (by simpa using h)
    rw [show j + (i + 1) = j + 1 + i by omega]
    exact List.mem_cons_of_mem _ this
theorem lcl_inv {g : CX} : ∀ (L : List (Option Value)) (j : Nat) (p : Nat × Value), p ∈ lcl g j L → ∃ (i : Nat) (v : Value), L[i]? = some (some v) ∧ p = (j + i, vV g v)
  | [], j, p, h => by cases h
  | none :: l, j, p, h => by
    obtain ⟨i, v, h1, h2⟩ := lcl_inv l (j + 1) p h
    exact ⟨i + 1, v, by simpa using h1, by rw [h2, show j + (i + 1) = j + 1 + i by omega]⟩
  | some w :: l, j, p, h => by
    rcases List.mem_cons.mp h with h | h
    · exact ⟨0, w, rfl, h⟩
    · obtain ⟨i, v, h1, h2⟩ := lcl_inv l (j + 1) p h
      exact ⟨i + 1, v, by simpa using h1, by rw [h2, show j + (i + 1) = j + 1 + i by omega]⟩
theorem lcl_at {g : CX} {ls : Array Slot} {nL i : Nat} {v : Value} (hl : lv_has ls nL (lcl g 0 L)) (hi : L[i]? = some (some v)) : ls[i]? = some (.val (vV g v)) := by
  have := hl.2.2 _ (lcl_mem L 0 i v hi)
  simpa using this
def nl : Option Value → Bool
  | some (.long _) => false
  | some (.double _) => false
  | _ => true
theorem nl_cat {v : Value} (h : nl (some v) = true) : v.category = 1 := by cases v <;> first | rfl | cases h
theorem lcl_set {g : CX} {ls : Array Slot} {nL i : Nat} {v : Value} (hb : ∀ w, i ≠ 0 → L[i - 1]? = some (some w) → w.category = 1) (hi : i < L.length)
    (hl : lv_has ls nL ((i, vV g v) :: (lcl g 0 L).filter (fun q => !(q.1 == i) && !(q.1 + 1 == i && q.2.category == 2)))) : lv_has ls nL (lcl g 0 (L.set i (some v))) := by
  refine ⟨hl.1, hl.2.1, fun p hp => hl.2.2 p ?_⟩
  obtain ⟨k, w, h1, rfl⟩ := lcl_inv _ _ _ hp
  by_cases hk : k = i
  · subst hk
    rw [List.getElem?_set_self hi] at h1
    cases h1
    simp
  · rw [List.getElem?_set_ne (Ne.symm hk)] at h1
    refine List.mem_cons_of_mem _ (List.mem_filter.mpr ⟨lcl_mem L 0 k w h1, ?_⟩)
    simp only [Nat.zero_add, vV_cat]
    by_cases hk1 : k + 1 = i
    · have := hb w (by omega) (by rw [show i - 1 = k by omega]; exact h1)
      simp [hk, this]
    · simp [hk, hk1]
theorem x_iconst {k : Int} {v : Int32} (G : Gc κ own b d) (hd : dc b pc q (.iconst k) 1) (hv : Int32.ofInt k = v) (kk : X κ n q L (.int v :: st) h) : X κ n pc L (st) h := by
  obtain ⟨hd, rfl⟩ := hd
  intro H locs ls hz hP hS hl
  exact lv_iconst G.exec G.code hd hv (kk H locs ls hz hP hS hl)
theorem x_bipush {k : Int} {v : Int32} (G : Gc κ own b d) (hd : dc b pc q (.bipush k) 2) (hv : (Int8.ofInt k).toInt32 = v) (kk : X κ n q L (.int v :: st) h) : X κ n pc L (st) h := by
  obtain ⟨hd, rfl⟩ := hd
  intro H locs ls hz hP hS hl
  exact lv_bipush G.exec G.code hd hv (kk H locs ls hz hP hS hl)
theorem x_sipush {k : Int} {v : Int32} (G : Gc κ own b d) (hd : dc b pc q (.sipush k) 3) (hv : (Int16.ofInt k).toInt32 = v) (kk : X κ n q L (.int v :: st) h) : X κ n pc L (st) h := by
  obtain ⟨hd, rfl⟩ := hd
  intro H locs ls hz hP hS hl
  exact lv_sipush G.exec G.code hd hv (kk H locs ls hz hP hS hl)
theorem x_lconst {k : Fin 2} {v : Int64} (G : Gc κ own b d) (hd : dc b pc q (.lconst k) 1) (hv : Int64.ofNat (k : Nat) = v) (kk : X κ n q L (.long v :: st) h) : X κ n pc L (st) h := by
  obtain ⟨hd, rfl⟩ := hd
  intro H locs ls hz hP hS hl
  exact lv_lconst G.exec G.code hd hv (kk H locs ls hz hP hS hl)
theorem x_iadd {x y : Int32} (G : Gc κ own b d) (hd : dc b pc q .iadd 1) (kk : X κ n q L (.int (x + y) :: st) h) : X κ n pc L (.int y :: .int x :: st) h := by
  obtain ⟨hd, rfl⟩ := hd
  intro H locs ls hz hP hS hl
  exact lv_iadd G.exec G.code hd (kk H locs ls hz hP hS hl)
theorem x_isub {x y : Int32} (G : Gc κ own b d) (hd : dc b pc q .isub 1) (kk : X κ n q L (.int (x - y) :: st) h) : X κ n pc L (.int y :: .int x :: st) h := by
  obtain ⟨hd, rfl⟩ := hd
  intro H locs ls hz hP hS hl
  exact lv_isub G.exec G.code hd (kk H locs ls hz hP hS hl)
theorem x_imul {x y : Int32} (G : Gc κ own b d) (hd : dc b pc q .imul 1) (kk : X κ n q L (.int (x * y) :: st) h) : X κ n pc L (.int y :: .int x :: st) h := by
  obtain ⟨hd, rfl⟩ := hd
  intro H locs ls hz hP hS hl
  exact lv_imul G.exec G.code hd (kk H locs ls hz hP hS hl)
theorem x_iand {x y : Int32} (G : Gc κ own b d) (hd : dc b pc q .iand 1) (kk : X κ n q L (.int (x &&& y) :: st) h) : X κ n pc L (.int y :: .int x :: st) h := by
  obtain ⟨hd, rfl⟩ := hd
  intro H locs ls hz hP hS hl
  exact lv_iand G.exec G.code hd (kk H locs ls hz hP hS hl)
theorem x_ior {x y : Int32} (G : Gc κ own b d) (hd : dc b pc q .ior 1) (kk : X κ n q L (.int (x ||| y) :: st) h) : X κ n pc L (.int y :: .int x :: st) h := by
  obtain ⟨hd, rfl⟩ := hd
  intro H locs ls hz hP hS hl
  exact lv_ior G.exec G.code hd (kk H locs ls hz hP hS hl)
theorem x_ixor {x y : Int32} (G : Gc κ own b d) (hd : dc b pc q .ixor 1) (kk : X κ n q L (.int (x ^^^ y) :: st) h) : X κ n pc L (.int y :: .int x :: st) h := by
  obtain ⟨hd, rfl⟩ := hd
  intro H locs ls hz hP hS hl
  exact lv_ixor G.exec G.code hd (kk H locs ls hz hP hS hl)
theorem x_ishl {x y : Int32} (G : Gc κ own b d) (hd : dc b pc q .ishl 1) (kk : X κ n q L (.int (x <<< (y &&& 31)) :: st) h) : X κ n pc L (.int y :: .int x :: st) h := by
  obtain ⟨hd, rfl⟩ := hd
  intro H locs ls hz hP hS hl
  exact lv_ishl G.exec G.code hd (kk H locs ls hz hP hS hl)
theorem x_ishr {x y : Int32} (G : Gc κ own b d) (hd : dc b pc q .ishr 1) (kk : X κ n q L (.int (x >>> (y &&& 31)) :: st) h) : X κ n pc L (.int y :: .int x :: st) h := by
  obtain ⟨hd, rfl⟩ := hd
  intro H locs ls hz hP hS hl
  exact lv_ishr G.exec G.code hd (kk H locs ls hz hP hS hl)
theorem x_idiv {x y : Int32} (G : Gc κ own b d) (hd : dc b pc q .idiv 1) (hne : ¬ y = 0) (kk : X κ n q L (.int (x / y) :: st) h) : X κ n pc L (.int y :: .int x :: st) h := by
  obtain ⟨hd, rfl⟩ := hd
  intro H locs ls hz hP hS hl
  exact lv_idiv G.exec G.code hd hne (kk H locs ls hz hP hS hl)
theorem x_irem {x y : Int32} (G : Gc κ own b d) (hd : dc b pc q .irem 1) (hne : ¬ y = 0) (kk : X κ n q L (.int (x - x / y * y) :: st) h) : X κ n pc L (.int y :: .int x :: st) h := by
  obtain ⟨hd, rfl⟩ := hd
  intro H locs ls hz hP hS hl
  exact lv_irem G.exec G.code hd hne (kk H locs ls hz hP hS hl)
theorem x_ineg {x : Int32} (G : Gc κ own b d) (hd : dc b pc q .ineg 1) (kk : X κ n q L (.int (-x) :: st) h) : X κ n pc L (.int x :: st) h := by
  obtain ⟨hd, rfl⟩ := hd
  intro H locs ls hz hP hS hl
  exact lv_ineg G.exec G.code hd (kk H locs ls hz hP hS hl)
theorem x_ladd {x y : Int64} (G : Gc κ own b d) (hd : dc b pc q .ladd 1) (kk : X κ n q L (.long (x + y) :: st) h) : X κ n pc L (.long y :: .long x :: st) h := by
  obtain ⟨hd, rfl⟩ := hd
  intro H locs ls hz hP hS hl
  exact lv_ladd G.exec G.code hd (kk H locs ls hz hP hS hl)
theorem x_lcmp {x y : Int64} (G : Gc κ own b d) (hd : dc b pc q .lcmp 1) (kk : X κ n q L (.int (lg_cmp x y) :: st) h) : X κ n pc L (.long y :: .long x :: st) h := by
  obtain ⟨hd, rfl⟩ := hd
  intro H locs ls hz hP hS hl
  exact W.lcmp G.exec G.code hd (kk H locs ls hz hP hS hl)
theorem x_iushr {x y : Int32} (G : Gc κ own b d) (hd : dc b pc q .iushr 1) (kk : X κ n q L (.int ((x.toUInt32 >>> (y.toUInt32 &&& Int32.toUInt32 31)).toInt32) :: st) h) : X κ n pc L (.int y :: .int x :: st) h := by
  obtain ⟨hd, rfl⟩ := hd
  intro H locs ls hz hP hS hl
  exact lv_iushr G.exec G.code hd rfl (kk H locs ls hz hP hS hl)
theorem x_i2l {x : Int32} (G : Gc κ own b d) (hd : dc b pc q .i2l 1) (kk : X κ n q L (.long x.toInt64 :: st) h) : X κ n pc L (.int x :: st) h := by
  obtain ⟨hd, rfl⟩ := hd
  intro H locs ls hz hP hS hl
  exact lv_i2l G.exec G.code hd rfl (kk H locs ls hz hP hS hl)
theorem x_i2s {x : Int32} (G : Gc κ own b d) (hd : dc b pc q .i2s 1) (kk : X κ n q L (.int x.toInt16.toInt32 :: st) h) : X κ n pc L (.int x :: st) h := by
  obtain ⟨hd, rfl⟩ := hd
  intro H locs ls hz hP hS hl
  exact lv_i2s G.exec G.code hd rfl (kk H locs ls hz hP hS hl)
theorem x_i2c {x : Int32} (G : Gc κ own b d) (hd : dc b pc q .i2c 1) (kk : X κ n q L (.int ((x.toUInt32 % 65536).toInt32) :: st) h) : X κ n pc L (.int x :: st) h := by
  obtain ⟨hd, rfl⟩ := hd
  intro H locs ls hz hP hS hl
  exact lv_i2c G.exec G.code hd rfl (kk H locs ls hz hP hS hl)
theorem x_dup {v : Value} (G : Gc κ own b d) (hd : dc b pc q .dup 1) (hv : v.category = 1) (kk : X κ n q L (v :: v :: st) h) : X κ n pc L (v :: st) h := by
  obtain ⟨hd, rfl⟩ := hd
  intro H locs ls hz hP hS hl
  exact lv_dup G.exec G.code hd ((vV_cat _ _).trans hv) (kk H locs ls hz hP hS hl)
theorem x_dup2 {v w : Value} (G : Gc κ own b d) (hd : dc b pc q .dup2 1) (hv : v.category = 1) (hw : w.category = 1) (kk : X κ n q L (v :: w :: v :: w :: st) h) : X κ n pc L (v :: w :: st) h := by
  obtain ⟨hd, rfl⟩ := hd
  intro H locs ls hz hP hS hl
  exact lv_dup2_11 G.exec G.code hd ((vV_cat _ _).trans hv) ((vV_cat _ _).trans hw) (kk H locs ls hz hP hS hl)
theorem x_pop {v : Value} (G : Gc κ own b d) (hd : dc b pc q .pop 1) (hv : v.category = 1) (kk : X κ n q L (st) h) : X κ n pc L (v :: st) h := by
  obtain ⟨hd, rfl⟩ := hd
  intro H locs ls hz hP hS hl
  exact lv_pop G.exec G.code hd ((vV_cat _ _).trans hv) (kk H locs ls hz hP hS hl)
theorem x_null (G : Gc κ own b d) (hd : dc b pc q .aconst_null 1) (kk : X κ n q L (.null :: st) h) : X κ n pc L (st) h := by
  obtain ⟨hd, rfl⟩ := hd
  intro H locs ls hz hP hS hl
  exact lv_null G.exec G.code hd (kk H locs ls hz hP hS hl)
theorem x_ldc {i : Nat} {v : Int32} (G : Gc κ own b d) (hd : dc b pc q (.ldc i) 2) (hw : Cond.constant own i v ∈ WS) (kk : X κ n q L (.int v :: st) h) : X κ n pc L st h := by
  obtain ⟨hd, rfl⟩ := hd
  intro H locs ls hz hP hS hl
  exact lv_ldc G.exec G.code G.owns (G.words _ hw) hd (kk H locs ls hz hP hS hl)
theorem x_ldcw {i : Nat} {v : Int32} (G : Gc κ own b d) (hd : dc b pc q (.ldc_w i) 3) (hw : Cond.constant own i v ∈ WS) (kk : X κ n q L (.int v :: st) h) : X κ n pc L st h := by
  obtain ⟨hd, rfl⟩ := hd
  intro H locs ls hz hP hS hl
  exact lv_ldcw G.exec G.code G.owns (G.words _ hw) hd (kk H locs ls hz hP hS hl)
theorem x_ldc2 {i : Nat} {v : Int64} (G : Gc κ own b d) (hd : dc b pc q (.ldc2_w i) 3) (hw : Cond.constantLong own i v ∈ WS) (kk : X κ n q L (.long v :: st) h) : X κ n pc L st h := by
  obtain ⟨hd, rfl⟩ := hd
  intro H locs ls hz hP hS hl
  exact lv_ldc2 G.exec G.code G.owns (G.words _ hw) hd (kk H locs ls hz hP hS hl)
theorem x_top {x : Int32} (kk : ∀ y : Int32, y = x → X κ n pc L (.int y :: st) h) : X κ n pc L (.int x :: st) h := kk x rfl
theorem x_goto {off : Int} (G : Gc κ own b d) (hd : db b pc q t (.goto off) 3 off) (kk : X κ n t L st h) : X κ n pc L st h := by
  intro H locs ls hz hP hS hl
  exact lv_goto G.exec G.code hd.1 hd.2.2 (kk H locs ls hz hP hS hl)
theorem x_ifnull {off : Int} {x : Nat} (G : Gc κ own b d) (hd : db b pc q t (.ifnull off) 3 off) (kk : X κ n q L st h) : X κ n pc L (.ref x :: st) h := by
  obtain ⟨hd, rfl, -⟩ := hd
  intro H locs ls hz hP hS hl
  exact lv_ifnull G.exec G.code hd (kk H locs ls hz hP hS hl)
theorem x_ifnullN {off : Int} (G : Gc κ own b d) (hd : db b pc q t (.ifnull off) 3 off) (kk : X κ n t L st h) : X κ n pc L (.null :: st) h := by
  intro H locs ls hz hP hS hl
  exact lv_ifnullN G.exec G.code hd.1 hd.2.2 (kk H locs ls hz hP hS hl)
theorem x_lookup {dflt : Int} {ps : Array (Int × Int)} {len : Nat} {x : Int32} (off : Int) (t : Nat) (G : Gc κ own b d) (hd : decode b pc = .ok (.lookupswitch dflt ps, len)) (hp : (ps.toList.zip (ps.toList.drop 1)).all (fun (a, next) => a.1 < next.1) = true) (ho : Op.lookupswitch.offset ps.toList dflt x.toInt = off) (ht : (pc : Int) + off = (t : Int))
    (kk : X κ n t L st h) : X κ n pc L (.int x :: st) h := by
  intro H locs ls hz hP hS hl
  exact lv_lookup G.exec G.code hd hp ho ht (kk H locs ls hz hP hS hl)
theorem x_tabOut {dflt lo hi : Int} {offs : Array Int} {len : Nat} {x : Int32} (t : Nat) (G : Gc κ own b d) (hd : decode b pc = .ok (.tableswitch dflt lo hi offs, len)) (hx : x.toInt < lo ∨ hi < x.toInt) (ht : (pc : Int) + dflt = (t : Int)) (kk : X κ n t L st h) : X κ n pc L (.int x :: st) h := by
  intro H locs ls hz hP hS hl
  exact lv_tableOut G.exec G.code hd hx ht (kk H locs ls hz hP hS hl)
theorem x_tabIn {dflt lo hi : Int} {offs : Array Int} {len : Nat} {x : Int32} (off : Int) (t : Nat) (G : Gc κ own b d) (hd : decode b pc = .ok (.tableswitch dflt lo hi offs, len)) (h1 : ¬ x.toInt < lo) (h2 : ¬ hi < x.toInt) (ho : offs[(x.toInt - lo).toNat]? = some off) (ht : (pc : Int) + off = (t : Int)) (kk : X κ n t L st h) : X κ n pc L (.int x :: st) h := by
  intro H locs ls hz hP hS hl
  exact lv_tableIn G.exec G.code hd h1 h2 ho ht (kk H locs ls hz hP hS hl)
theorem x_if_eq {off : Int} {x : Int32} (G : Gc κ own b d) (hd : db b pc q t (.ifCond .eq off) 3 off) (kt : x = 0 → X κ n t L st h) (kf : ¬ (x = 0) → X κ n q L st h) : X κ n pc L (.int x :: st) h := by
  obtain ⟨hd, rfl, ht⟩ := hd
  intro H locs ls hz hP hS hl
  exact lv_if_eq G.exec G.code hd ht (fun c => kt c H locs ls hz hP hS hl) (fun c => kf c H locs ls hz hP hS hl)
theorem x_icmp_eq {off : Int} {x y : Int32} (G : Gc κ own b d) (hd : db b pc q t (.if_icmp .eq off) 3 off) (kt : x = y → X κ n t L st h) (kf : ¬ (x = y) → X κ n q L st h) : X κ n pc L (.int y :: .int x :: st) h := by
  obtain ⟨hd, rfl, ht⟩ := hd
  intro H locs ls hz hP hS hl
  exact lv_icmp_eq G.exec G.code hd ht (fun c => kt c H locs ls hz hP hS hl) (fun c => kf c H locs ls hz hP hS hl)
theorem x_if_ne {off : Int} {x : Int32} (G : Gc κ own b d) (hd : db b pc q t (.ifCond .ne off) 3 off) (kt : ¬ x = 0 → X κ n t L st h) (kf : x = 0 → X κ n q L st h) : X κ n pc L (.int x :: st) h := by
  obtain ⟨hd, rfl, ht⟩ := hd
  intro H locs ls hz hP hS hl
  exact lv_if_ne G.exec G.code hd ht (fun c => kt c H locs ls hz hP hS hl) (fun c => kf c H locs ls hz hP hS hl)
theorem x_icmp_ne {off : Int} {x y : Int32} (G : Gc κ own b d) (hd : db b pc q t (.if_icmp .ne off) 3 off) (kt : ¬ x = y → X κ n t L st h) (kf : x = y → X κ n q L st h) : X κ n pc L (.int y :: .int x :: st) h := by
  obtain ⟨hd, rfl, ht⟩ := hd
  intro H locs ls hz hP hS hl
  exact lv_icmp_ne G.exec G.code hd ht (fun c => kt c H locs ls hz hP hS hl) (fun c => kf c H locs ls hz hP hS hl)
theorem x_if_lt {off : Int} {x : Int32} (G : Gc κ own b d) (hd : db b pc q t (.ifCond .lt off) 3 off) (kt : x < 0 → X κ n t L st h) (kf : ¬ (x < 0) → X κ n q L st h) : X κ n pc L (.int x :: st) h := by
  obtain ⟨hd, rfl, ht⟩ := hd
  intro H locs ls hz hP hS hl
  exact lv_if_lt G.exec G.code hd ht (fun c => kt c H locs ls hz hP hS hl) (fun c => kf c H locs ls hz hP hS hl)
theorem x_icmp_lt {off : Int} {x y : Int32} (G : Gc κ own b d) (hd : db b pc q t (.if_icmp .lt off) 3 off) (kt : x < y → X κ n t L st h) (kf : ¬ (x < y) → X κ n q L st h) : X κ n pc L (.int y :: .int x :: st) h := by
  obtain ⟨hd, rfl, ht⟩ := hd
  intro H locs ls hz hP hS hl
  exact lv_icmp_lt G.exec G.code hd ht (fun c => kt c H locs ls hz hP hS hl) (fun c => kf c H locs ls hz hP hS hl)
theorem x_if_ge {off : Int} {x : Int32} (G : Gc κ own b d) (hd : db b pc q t (.ifCond .ge off) 3 off) (kt : 0 ≤ x → X κ n t L st h) (kf : ¬ (0 ≤ x) → X κ n q L st h) : X κ n pc L (.int x :: st) h := by
  obtain ⟨hd, rfl, ht⟩ := hd
  intro H locs ls hz hP hS hl
  exact lv_if_ge G.exec G.code hd ht (fun c => kt c H locs ls hz hP hS hl) (fun c => kf c H locs ls hz hP hS hl)
theorem x_icmp_ge {off : Int} {x y : Int32} (G : Gc κ own b d) (hd : db b pc q t (.if_icmp .ge off) 3 off) (kt : y ≤ x → X κ n t L st h) (kf : ¬ (y ≤ x) → X κ n q L st h) : X κ n pc L (.int y :: .int x :: st) h := by
  obtain ⟨hd, rfl, ht⟩ := hd
  intro H locs ls hz hP hS hl
  exact lv_icmp_ge G.exec G.code hd ht (fun c => kt c H locs ls hz hP hS hl) (fun c => kf c H locs ls hz hP hS hl)
theorem x_if_gt {off : Int} {x : Int32} (G : Gc κ own b d) (hd : db b pc q t (.ifCond .gt off) 3 off) (kt : 0 < x → X κ n t L st h) (kf : ¬ (0 < x) → X κ n q L st h) : X κ n pc L (.int x :: st) h := by
  obtain ⟨hd, rfl, ht⟩ := hd
  intro H locs ls hz hP hS hl
  exact lv_if_gt G.exec G.code hd ht (fun c => kt c H locs ls hz hP hS hl) (fun c => kf c H locs ls hz hP hS hl)
theorem x_icmp_gt {off : Int} {x y : Int32} (G : Gc κ own b d) (hd : db b pc q t (.if_icmp .gt off) 3 off) (kt : y < x → X κ n t L st h) (kf : ¬ (y < x) → X κ n q L st h) : X κ n pc L (.int y :: .int x :: st) h := by
  obtain ⟨hd, rfl, ht⟩ := hd
  intro H locs ls hz hP hS hl
  exact lv_icmp_gt G.exec G.code hd ht (fun c => kt c H locs ls hz hP hS hl) (fun c => kf c H locs ls hz hP hS hl)
theorem x_if_le {off : Int} {x : Int32} (G : Gc κ own b d) (hd : db b pc q t (.ifCond .le off) 3 off) (kt : x ≤ 0 → X κ n t L st h) (kf : ¬ (x ≤ 0) → X κ n q L st h) : X κ n pc L (.int x :: st) h := by
  obtain ⟨hd, rfl, ht⟩ := hd
  intro H locs ls hz hP hS hl
  exact lv_if_le G.exec G.code hd ht (fun c => kt c H locs ls hz hP hS hl) (fun c => kf c H locs ls hz hP hS hl)
theorem x_icmp_le {off : Int} {x y : Int32} (G : Gc κ own b d) (hd : db b pc q t (.if_icmp .le off) 3 off) (kt : x ≤ y → X κ n t L st h) (kf : ¬ (x ≤ y) → X κ n q L st h) : X κ n pc L (.int y :: .int x :: st) h := by
  obtain ⟨hd, rfl, ht⟩ := hd
  intro H locs ls hz hP hS hl
  exact lv_icmp_le G.exec G.code hd ht (fun c => kt c H locs ls hz hP hS hl) (fun c => kf c H locs ls hz hP hS hl)
theorem x_ild {i : Nat} {x : Int32} (G : Gc κ own b d) (hd : dc b pc q (.iload i) 2) (hi : L[i]? = some (some (.int x))) (kk : X κ n q L (.int x :: st) h) : X κ n pc L st h := by
  obtain ⟨hd, rfl⟩ := hd
  intro H locs ls hz hP hS hl
  exact lv_iload G.exec G.code hd (lcl_at hl hi) (kk H locs ls hz hP hS hl)
theorem x_ildn {k : Fin 4} {x : Int32} (G : Gc κ own b d) (hd : dc b pc q (.iload_n k) 1) (hi : L[(k : Nat)]? = some (some (.int x))) (kk : X κ n q L (.int x :: st) h) : X κ n pc L st h := by
  obtain ⟨hd, rfl⟩ := hd
  intro H locs ls hz hP hS hl
  exact lv_iload_n G.exec G.code hd rfl (lcl_at hl hi) (kk H locs ls hz hP hS hl)
theorem x_lldn {k : Fin 4} {x : Int64} (G : Gc κ own b d) (hd : dc b pc q (.lload_n k) 1) (hi : L[(k : Nat)]? = some (some (.long x))) (kk : X κ n q L (.long x :: st) h) : X κ n pc L st h := by
  obtain ⟨hd, rfl⟩ := hd
  intro H locs ls hz hP hS hl
  exact lv_lload_n G.exec G.code hd rfl (lcl_at hl hi) (kk H locs ls hz hP hS hl)
theorem x_lld {i : Nat} {x : Int64} (G : Gc κ own b d) (hd : dc b pc q (.lload i) 2) (hi : L[i]? = some (some (.long x))) (kk : X κ n q L (.long x :: st) h) : X κ n pc L st h := by
  obtain ⟨hd, rfl⟩ := hd
  intro H locs ls hz hP hS hl
  exact lv_lload G.exec G.code hd (lcl_at hl hi) (kk H locs ls hz hP hS hl)
theorem x_ald {i : Nat} {x : Nat} (G : Gc κ own b d) (hd : dc b pc q (.aload i) 2) (hi : L[i]? = some (some (.ref x))) (kk : X κ n q L (.ref x :: st) h) : X κ n pc L st h := by
  obtain ⟨hd, rfl⟩ := hd
  intro H locs ls hz hP hS hl
  exact lv_aload G.exec G.code hd (lcl_at hl hi) (kk H locs ls hz hP hS hl)
theorem x_aldn {k : Fin 4} {x : Nat} (G : Gc κ own b d) (hd : dc b pc q (.aload_n k) 1) (hi : L[(k : Nat)]? = some (some (.ref x))) (kk : X κ n q L (.ref x :: st) h) : X κ n pc L st h := by
  obtain ⟨hd, rfl⟩ := hd
  intro H locs ls hz hP hS hl
  exact lv_aload_n G.exec G.code hd rfl (lcl_at hl hi) (kk H locs ls hz hP hS hl)
theorem k_len (hk : L.length = kn κ) {i : Nat} {o : Option Value} (hi : L[i]? = some o) : i < L.length ∧ i < kn κ := by
  have := (List.getElem?_eq_some_iff.mp hi).1
  exact ⟨this, hk ▸ this⟩
theorem x_ist {i : Nat} {x : Int32} (G : Gc κ own b d) (hd : dc b pc q (.istore i) 2) (hi : i < L.length) (hk : L.length ≤ kn κ) (hb : ∀ w, i ≠ 0 → L[i - 1]? = some (some w) → w.category = 1) (kk : X κ n q (L.set i (some (.int x))) st h) : X κ n pc L (.int x :: st) h := by
  obtain ⟨hd, rfl⟩ := hd
  intro H locs ls hz hP hS hl
  exact lv_istore G.exec G.code hd hl (Nat.lt_of_lt_of_le hi hk) rfl (fun ls' hl' => kk H locs ls' hz hP hS (lcl_set hb hi hl'))
theorem x_istn {k : Fin 4} {x : Int32} (G : Gc κ own b d) (hd : dc b pc q (.istore_n k) 1) (hi : (k : Nat) < L.length) (hk : L.length ≤ kn κ) (hb : ∀ w, (k : Nat) ≠ 0 → L[(k : Nat) - 1]? = some (some w) → w.category = 1) (kk : X κ n q (L.set (k : Nat) (some (.int x))) st h) : X κ n pc L (.int x :: st) h := by
  obtain ⟨hd, rfl⟩ := hd
  intro H locs ls hz hP hS hl
  exact lv_istore_n G.exec G.code hd rfl hl (Nat.lt_of_lt_of_le hi hk) rfl (fun ls' hl' => kk H locs ls' hz hP hS (lcl_set hb hi hl'))
theorem x_ast {i : Nat} {x : Nat} (G : Gc κ own b d) (hd : dc b pc q (.astore i) 2) (hi : i < L.length) (hk : L.length ≤ kn κ) (hb : ∀ w, i ≠ 0 → L[i - 1]? = some (some w) → w.category = 1) (kk : X κ n q (L.set i (some (.ref x))) st h) : X κ n pc L (.ref x :: st) h := by
  obtain ⟨hd, rfl⟩ := hd
  intro H locs ls hz hP hS hl
  exact lv_astore G.exec G.code hd hl (Nat.lt_of_lt_of_le hi hk) rfl (fun ls' hl' => kk H locs ls' hz hP hS (lcl_set (v := .ref x) hb hi hl'))
theorem x_astn {k : Fin 4} {x : Nat} (G : Gc κ own b d) (hd : dc b pc q (.astore_n k) 1) (hi : (k : Nat) < L.length) (hk : L.length ≤ kn κ) (hb : ∀ w, (k : Nat) ≠ 0 → L[(k : Nat) - 1]? = some (some w) → w.category = 1) (kk : X κ n q (L.set (k : Nat) (some (.ref x))) st h) : X κ n pc L (.ref x :: st) h := by
  obtain ⟨hd, rfl⟩ := hd
  intro H locs ls hz hP hS hl
  exact lv_astore_n G.exec G.code hd rfl hl (Nat.lt_of_lt_of_le hi hk) rfl (fun ls' hl' => kk H locs ls' hz hP hS (lcl_set (v := .ref x) hb hi hl'))
theorem x_inc {i : Nat} {m : Int} {x v : Int32} (G : Gc κ own b d) (hd : dc b pc q (.iinc i m) 3) (hi : L[i]? = some (some (.int x))) (hk : L.length ≤ kn κ) (hb : ∀ w, i ≠ 0 → L[i - 1]? = some (some w) → w.category = 1) (hv : x + Int32.ofInt m = v) (kk : X κ n q (L.set i (some (.int v))) st h) : X κ n pc L st h := by
  obtain ⟨hd, rfl⟩ := hd
  intro H locs ls hz hP hS hl
  have hlt := (List.getElem?_eq_some_iff.mp hi).1
  obtain ⟨k, hk9, hk8⟩ := List.getElem_of_mem (lcl_mem (g := kg κ) L 0 i _ hi)
  exact lv_iinc (k := k) G.exec G.code hd hl (by rw [List.getElem?_eq_getElem hk9, hk8, Nat.zero_add]; rfl) hv (Nat.lt_of_lt_of_le hlt hk) rfl (fun ls' hl' => kk H locs ls' hz hP hS (lcl_set (v := .int v) hb hlt hl'))
theorem x_iload0 {B : List (Option Value)} {x : Int32} (G : Gc κ own b d) (hd : dc b pc q (.iload_n 0) 1) (kk : X κ n q (some (.int x) :: B) (.int x :: st) h) : X κ n pc (some (.int x) :: B) st h := x_ildn G hd rfl kk
theorem x_aload0 {B : List (Option Value)} {x : Nat} (G : Gc κ own b d) (hd : dc b pc q (.aload_n 0) 1) (kk : X κ n q (some (.ref x) :: B) (.ref x :: st) h) : X κ n pc (some (.ref x) :: B) st h := x_aldn G hd rfl kk
theorem x_istore0 {o : Option Value} {B : List (Option Value)} {x : Int32} (G : Gc κ own b d) (hd : dc b pc q (.istore_n 0) 1) (hk : (o :: B).length ≤ kn κ) (kk : X κ n q (some (.int x) :: B) st h) : X κ n pc (o :: B) (.int x :: st) h := x_istn G hd (show 0 < _ by simp) hk (fun w q _ => absurd rfl q) kk
theorem x_astore0 {o : Option Value} {B : List (Option Value)} {x : Nat} (G : Gc κ own b d) (hd : dc b pc q (.astore_n 0) 1) (hk : (o :: B).length ≤ kn κ) (kk : X κ n q (some (.ref x) :: B) st h) : X κ n pc (o :: B) (.ref x :: st) h := x_astn G hd (show 0 < _ by simp) hk (fun w q _ => absurd rfl q) kk
theorem x_iinc0 {B : List (Option Value)} {m : Int} {x v : Int32} (G : Gc κ own b d) (hd : dc b pc q (.iinc 0 m) 3) (hk : (some (.int x) :: B).length ≤ kn κ) (hv : x + Int32.ofInt m = v) (kk : X κ n q (some (.int v) :: B) st h) : X κ n pc (some (.int x) :: B) st h := x_inc G hd rfl hk (fun w q _ => absurd rfl q) hv kk
theorem x_iload1 {a0 : Option Value} {B : List (Option Value)} {x : Int32} (G : Gc κ own b d) (hd : dc b pc q (.iload_n 1) 1) (kk : X κ n q (a0 :: some (.int x) :: B) (.int x :: st) h) : X κ n pc (a0 :: some (.int x) :: B) st h := x_ildn G hd rfl kk
theorem x_aload1 {a0 : Option Value} {B : List (Option Value)} {x : Nat} (G : Gc κ own b d) (hd : dc b pc q (.aload_n 1) 1) (kk : X κ n q (a0 :: some (.ref x) :: B) (.ref x :: st) h) : X κ n pc (a0 :: some (.ref x) :: B) st h := x_aldn G hd rfl kk
theorem x_istore1 {a0 : Option Value} {o : Option Value} {B : List (Option Value)} {x : Int32} (G : Gc κ own b d) (hd : dc b pc q (.istore_n 1) 1) (hn : nl a0 = true) (hk : (a0 :: o :: B).length ≤ kn κ) (kk : X κ n q (a0 :: some (.int x) :: B) st h) : X κ n pc (a0 :: o :: B) (.int x :: st) h := x_istn G hd (show 1 < _ by simp) hk (fun w _ hw => by cases hw; exact nl_cat hn) kk
theorem x_astore1 {a0 : Option Value} {o : Option Value} {B : List (Option Value)} {x : Nat} (G : Gc κ own b d) (hd : dc b pc q (.astore_n 1) 1) (hn : nl a0 = true) (hk : (a0 :: o :: B).length ≤ kn κ) (kk : X κ n q (a0 :: some (.ref x) :: B) st h) : X κ n pc (a0 :: o :: B) (.ref x :: st) h := x_astn G hd (show 1 < _ by simp) hk (fun w _ hw => by cases hw; exact nl_cat hn) kk
theorem x_iinc1 {a0 : Option Value} {B : List (Option Value)} {m : Int} {x v : Int32} (G : Gc κ own b d) (hd : dc b pc q (.iinc 1 m) 3) (hn : nl a0 = true) (hk : (a0 :: some (.int x) :: B).length ≤ kn κ) (hv : x + Int32.ofInt m = v) (kk : X κ n q (a0 :: some (.int v) :: B) st h) : X κ n pc (a0 :: some (.int x) :: B) st h := x_inc G hd rfl hk (fun w _ hw => by cases hw; exact nl_cat hn) hv kk
theorem x_iload2 {a0 a1 : Option Value} {B : List (Option Value)} {x : Int32} (G : Gc κ own b d) (hd : dc b pc q (.iload_n 2) 1) (kk : X κ n q (a0 :: a1 :: some (.int x) :: B) (.int x :: st) h) : X κ n pc (a0 :: a1 :: some (.int x) :: B) st h := x_ildn G hd rfl kk
theorem x_aload2 {a0 a1 : Option Value} {B : List (Option Value)} {x : Nat} (G : Gc κ own b d) (hd : dc b pc q (.aload_n 2) 1) (kk : X κ n q (a0 :: a1 :: some (.ref x) :: B) (.ref x :: st) h) : X κ n pc (a0 :: a1 :: some (.ref x) :: B) st h := x_aldn G hd rfl kk
theorem x_istore2 {a0 a1 : Option Value} {o : Option Value} {B : List (Option Value)} {x : Int32} (G : Gc κ own b d) (hd : dc b pc q (.istore_n 2) 1) (hn : nl a1 = true) (hk : (a0 :: a1 :: o :: B).length ≤ kn κ) (kk : X κ n q (a0 :: a1 :: some (.int x) :: B) st h) : X κ n pc (a0 :: a1 :: o :: B) (.int x :: st) h := x_istn G hd (show 2 < _ by simp) hk (fun w _ hw => by cases hw; exact nl_cat hn) kk
theorem x_astore2 {a0 a1 : Option Value} {o : Option Value} {B : List (Option Value)} {x : Nat} (G : Gc κ own b d) (hd : dc b pc q (.astore_n 2) 1) (hn : nl a1 = true) (hk : (a0 :: a1 :: o :: B).length ≤ kn κ) (kk : X κ n q (a0 :: a1 :: some (.ref x) :: B) st h) : X κ n pc (a0 :: a1 :: o :: B) (.ref x :: st) h := x_astn G hd (show 2 < _ by simp) hk (fun w _ hw => by cases hw; exact nl_cat hn) kk
theorem x_iinc2 {a0 a1 : Option Value} {B : List (Option Value)} {m : Int} {x v : Int32} (G : Gc κ own b d) (hd : dc b pc q (.iinc 2 m) 3) (hn : nl a1 = true) (hk : (a0 :: a1 :: some (.int x) :: B).length ≤ kn κ) (hv : x + Int32.ofInt m = v) (kk : X κ n q (a0 :: a1 :: some (.int v) :: B) st h) : X κ n pc (a0 :: a1 :: some (.int x) :: B) st h := x_inc G hd rfl hk (fun w _ hw => by cases hw; exact nl_cat hn) hv kk
theorem x_iload3 {a0 a1 a2 : Option Value} {B : List (Option Value)} {x : Int32} (G : Gc κ own b d) (hd : dc b pc q (.iload_n 3) 1) (kk : X κ n q (a0 :: a1 :: a2 :: some (.int x) :: B) (.int x :: st) h) : X κ n pc (a0 :: a1 :: a2 :: some (.int x) :: B) st h := x_ildn G hd rfl kk
theorem x_aload3 {a0 a1 a2 : Option Value} {B : List (Option Value)} {x : Nat} (G : Gc κ own b d) (hd : dc b pc q (.aload_n 3) 1) (kk : X κ n q (a0 :: a1 :: a2 :: some (.ref x) :: B) (.ref x :: st) h) : X κ n pc (a0 :: a1 :: a2 :: some (.ref x) :: B) st h := x_aldn G hd rfl kk
theorem x_istore3 {a0 a1 a2 : Option Value} {o : Option Value} {B : List (Option Value)} {x : Int32} (G : Gc κ own b d) (hd : dc b pc q (.istore_n 3) 1) (hn : nl a2 = true) (hk : (a0 :: a1 :: a2 :: o :: B).length ≤ kn κ) (kk : X κ n q (a0 :: a1 :: a2 :: some (.int x) :: B) st h) : X κ n pc (a0 :: a1 :: a2 :: o :: B) (.int x :: st) h := x_istn G hd (show 3 < _ by simp) hk (fun w _ hw => by cases hw; exact nl_cat hn) kk
theorem x_astore3 {a0 a1 a2 : Option Value} {o : Option Value} {B : List (Option Value)} {x : Nat} (G : Gc κ own b d) (hd : dc b pc q (.astore_n 3) 1) (hn : nl a2 = true) (hk : (a0 :: a1 :: a2 :: o :: B).length ≤ kn κ) (kk : X κ n q (a0 :: a1 :: a2 :: some (.ref x) :: B) st h) : X κ n pc (a0 :: a1 :: a2 :: o :: B) (.ref x :: st) h := x_astn G hd (show 3 < _ by simp) hk (fun w _ hw => by cases hw; exact nl_cat hn) kk
theorem x_iinc3 {a0 a1 a2 : Option Value} {B : List (Option Value)} {m : Int} {x v : Int32} (G : Gc κ own b d) (hd : dc b pc q (.iinc 3 m) 3) (hn : nl a2 = true) (hk : (a0 :: a1 :: a2 :: some (.int x) :: B).length ≤ kn κ) (hv : x + Int32.ofInt m = v) (kk : X κ n q (a0 :: a1 :: a2 :: some (.int v) :: B) st h) : X κ n pc (a0 :: a1 :: a2 :: some (.int x) :: B) st h := x_inc G hd rfl hk (fun w _ hw => by cases hw; exact nl_cat hn) hv kk
theorem x_iload4 {a0 a1 a2 a3 : Option Value} {B : List (Option Value)} {x : Int32} (G : Gc κ own b d) (hd : dc b pc q (.iload 4) 2) (kk : X κ n q (a0 :: a1 :: a2 :: a3 :: some (.int x) :: B) (.int x :: st) h) : X κ n pc (a0 :: a1 :: a2 :: a3 :: some (.int x) :: B) st h := x_ild G hd rfl kk
theorem x_aload4 {a0 a1 a2 a3 : Option Value} {B : List (Option Value)} {x : Nat} (G : Gc κ own b d) (hd : dc b pc q (.aload 4) 2) (kk : X κ n q (a0 :: a1 :: a2 :: a3 :: some (.ref x) :: B) (.ref x :: st) h) : X κ n pc (a0 :: a1 :: a2 :: a3 :: some (.ref x) :: B) st h := x_ald G hd rfl kk
theorem x_istore4 {a0 a1 a2 a3 : Option Value} {o : Option Value} {B : List (Option Value)} {x : Int32} (G : Gc κ own b d) (hd : dc b pc q (.istore 4) 2) (hn : nl a3 = true) (hk : (a0 :: a1 :: a2 :: a3 :: o :: B).length ≤ kn κ) (kk : X κ n q (a0 :: a1 :: a2 :: a3 :: some (.int x) :: B) st h) : X κ n pc (a0 :: a1 :: a2 :: a3 :: o :: B) (.int x :: st) h := x_ist G hd (show 4 < _ by simp) hk (fun w _ hw => by cases hw; exact nl_cat hn) kk
theorem x_astore4 {a0 a1 a2 a3 : Option Value} {o : Option Value} {B : List (Option Value)} {x : Nat} (G : Gc κ own b d) (hd : dc b pc q (.astore 4) 2) (hn : nl a3 = true) (hk : (a0 :: a1 :: a2 :: a3 :: o :: B).length ≤ kn κ) (kk : X κ n q (a0 :: a1 :: a2 :: a3 :: some (.ref x) :: B) st h) : X κ n pc (a0 :: a1 :: a2 :: a3 :: o :: B) (.ref x :: st) h := x_ast G hd (show 4 < _ by simp) hk (fun w _ hw => by cases hw; exact nl_cat hn) kk
theorem x_iinc4 {a0 a1 a2 a3 : Option Value} {B : List (Option Value)} {m : Int} {x v : Int32} (G : Gc κ own b d) (hd : dc b pc q (.iinc 4 m) 3) (hn : nl a3 = true) (hk : (a0 :: a1 :: a2 :: a3 :: some (.int x) :: B).length ≤ kn κ) (hv : x + Int32.ofInt m = v) (kk : X κ n q (a0 :: a1 :: a2 :: a3 :: some (.int v) :: B) st h) : X κ n pc (a0 :: a1 :: a2 :: a3 :: some (.int x) :: B) st h := x_inc G hd rfl hk (fun w _ hw => by cases hw; exact nl_cat hn) hv kk
theorem x_iload5 {a0 a1 a2 a3 a4 : Option Value} {B : List (Option Value)} {x : Int32} (G : Gc κ own b d) (hd : dc b pc q (.iload 5) 2) (kk : X κ n q (a0 :: a1 :: a2 :: a3 :: a4 :: some (.int x) :: B) (.int x :: st) h) : X κ n pc (a0 :: a1 :: a2 :: a3 :: a4 :: some (.int x) :: B) st h := x_ild G hd rfl kk
theorem x_aload5 {a0 a1 a2 a3 a4 : Option Value} {B : List (Option Value)} {x : Nat} (G : Gc κ own b d) (hd : dc b pc q (.aload 5) 2) (kk : X κ n q (a0 :: a1 :: a2 :: a3 :: a4 :: some (.ref x) :: B) (.ref x :: st) h) : X κ n pc (a0 :: a1 :: a2 :: a3 :: a4 :: some (.ref x) :: B) st h := x_ald G hd rfl kk
theorem x_istore5 {a0 a1 a2 a3 a4 : Option Value} {o : Option Value} {B : List (Option Value)} {x : Int32} (G : Gc κ own b d) (hd : dc b pc q (.istore 5) 2) (hn : nl a4 = true) (hk : (a0 :: a1 :: a2 :: a3 :: a4 :: o :: B).length ≤ kn κ) (kk : X κ n q (a0 :: a1 :: a2 :: a3 :: a4 :: some (.int x) :: B) st h) : X κ n pc (a0 :: a1 :: a2 :: a3 :: a4 :: o :: B) (.int x :: st) h := x_ist G hd (show 5 < _ by simp) hk (fun w _ hw => by cases hw; exact nl_cat hn) kk
theorem x_astore5 {a0 a1 a2 a3 a4 : Option Value} {o : Option Value} {B : List (Option Value)} {x : Nat} (G : Gc κ own b d) (hd : dc b pc q (.astore 5) 2) (hn : nl a4 = true) (hk : (a0 :: a1 :: a2 :: a3 :: a4 :: o :: B).length ≤ kn κ) (kk : X κ n q (a0 :: a1 :: a2 :: a3 :: a4 :: some (.ref x) :: B) st h) : X κ n pc (a0 :: a1 :: a2 :: a3 :: a4 :: o :: B) (.ref x :: st) h := x_ast G hd (show 5 < _ by simp) hk (fun w _ hw => by cases hw; exact nl_cat hn) kk
theorem x_iinc5 {a0 a1 a2 a3 a4 : Option Value} {B : List (Option Value)} {m : Int} {x v : Int32} (G : Gc κ own b d) (hd : dc b pc q (.iinc 5 m) 3) (hn : nl a4 = true) (hk : (a0 :: a1 :: a2 :: a3 :: a4 :: some (.int x) :: B).length ≤ kn κ) (hv : x + Int32.ofInt m = v) (kk : X κ n q (a0 :: a1 :: a2 :: a3 :: a4 :: some (.int v) :: B) st h) : X κ n pc (a0 :: a1 :: a2 :: a3 :: a4 :: some (.int x) :: B) st h := x_inc G hd rfl hk (fun w _ hw => by cases hw; exact nl_cat hn) hv kk
theorem x_iload6 {a0 a1 a2 a3 a4 a5 : Option Value} {B : List (Option Value)} {x : Int32} (G : Gc κ own b d) (hd : dc b pc q (.iload 6) 2) (kk : X κ n q (a0 :: a1 :: a2 :: a3 :: a4 :: a5 :: some (.int x) :: B) (.int x :: st) h) : X κ n pc (a0 :: a1 :: a2 :: a3 :: a4 :: a5 :: some (.int x) :: B) st h := x_ild G hd rfl kk
theorem x_aload6 {a0 a1 a2 a3 a4 a5 : Option Value} {B : List (Option Value)} {x : Nat} (G : Gc κ own b d) (hd : dc b pc q (.aload 6) 2) (kk : X κ n q (a0 :: a1 :: a2 :: a3 :: a4 :: a5 :: some (.ref x) :: B) (.ref x :: st) h) : X κ n pc (a0 :: a1 :: a2 :: a3 :: a4 :: a5 :: some (.ref x) :: B) st h := x_ald G hd rfl kk
theorem x_istore6 {a0 a1 a2 a3 a4 a5 : Option Value} {o : Option Value} {B : List (Option Value)} {x : Int32} (G : Gc κ own b d) (hd : dc b pc q (.istore 6) 2) (hn : nl a5 = true) (hk : (a0 :: a1 :: a2 :: a3 :: a4 :: a5 :: o :: B).length ≤ kn κ) (kk : X κ n q (a0 :: a1 :: a2 :: a3 :: a4 :: a5 :: some (.int x) :: B) st h) : X κ n pc (a0 :: a1 :: a2 :: a3 :: a4 :: a5 :: o :: B) (.int x :: st) h := x_ist G hd (show 6 < _ by simp) hk (fun w _ hw => by cases hw; exact nl_cat hn) kk
theorem x_astore6 {a0 a1 a2 a3 a4 a5 : Option Value} {o : Option Value} {B : List (Option Value)} {x : Nat} (G : Gc κ own b d) (hd : dc b pc q (.astore 6) 2) (hn : nl a5 = true) (hk : (a0 :: a1 :: a2 :: a3 :: a4 :: a5 :: o :: B).length ≤ kn κ) (kk : X κ n q (a0 :: a1 :: a2 :: a3 :: a4 :: a5 :: some (.ref x) :: B) st h) : X κ n pc (a0 :: a1 :: a2 :: a3 :: a4 :: a5 :: o :: B) (.ref x :: st) h := x_ast G hd (show 6 < _ by simp) hk (fun w _ hw => by cases hw; exact nl_cat hn) kk
theorem x_iinc6 {a0 a1 a2 a3 a4 a5 : Option Value} {B : List (Option Value)} {m : Int} {x v : Int32} (G : Gc κ own b d) (hd : dc b pc q (.iinc 6 m) 3) (hn : nl a5 = true) (hk : (a0 :: a1 :: a2 :: a3 :: a4 :: a5 :: some (.int x) :: B).length ≤ kn κ) (hv : x + Int32.ofInt m = v) (kk : X κ n q (a0 :: a1 :: a2 :: a3 :: a4 :: a5 :: some (.int v) :: B) st h) : X κ n pc (a0 :: a1 :: a2 :: a3 :: a4 :: a5 :: some (.int x) :: B) st h := x_inc G hd rfl hk (fun w _ hw => by cases hw; exact nl_cat hn) hv kk
theorem x_iload7 {a0 a1 a2 a3 a4 a5 a6 : Option Value} {B : List (Option Value)} {x : Int32} (G : Gc κ own b d) (hd : dc b pc q (.iload 7) 2) (kk : X κ n q (a0 :: a1 :: a2 :: a3 :: a4 :: a5 :: a6 :: some (.int x) :: B) (.int x :: st) h) : X κ n pc (a0 :: a1 :: a2 :: a3 :: a4 :: a5 :: a6 :: some (.int x) :: B) st h := x_ild G hd rfl kk
theorem x_aload7 {a0 a1 a2 a3 a4 a5 a6 : Option Value} {B : List (Option Value)} {x : Nat} (G : Gc κ own b d) (hd : dc b pc q (.aload 7) 2) (kk : X κ n q (a0 :: a1 :: a2 :: a3 :: a4 :: a5 :: a6 :: some (.ref x) :: B) (.ref x :: st) h) : X κ n pc (a0 :: a1 :: a2 :: a3 :: a4 :: a5 :: a6 :: some (.ref x) :: B) st h := x_ald G hd rfl kk
theorem x_istore7 {a0 a1 a2 a3 a4 a5 a6 : Option Value} {o : Option Value} {B : List (Option Value)} {x : Int32} (G : Gc κ own b d) (hd : dc b pc q (.istore 7) 2) (hn : nl a6 = true) (hk : (a0 :: a1 :: a2 :: a3 :: a4 :: a5 :: a6 :: o :: B).length ≤ kn κ) (kk : X κ n q (a0 :: a1 :: a2 :: a3 :: a4 :: a5 :: a6 :: some (.int x) :: B) st h) : X κ n pc (a0 :: a1 :: a2 :: a3 :: a4 :: a5 :: a6 :: o :: B) (.int x :: st) h := x_ist G hd (show 7 < _ by simp) hk (fun w _ hw => by cases hw; exact nl_cat hn) kk
theorem x_astore7 {a0 a1 a2 a3 a4 a5 a6 : Option Value} {o : Option Value} {B : List (Option Value)} {x : Nat} (G : Gc κ own b d) (hd : dc b pc q (.astore 7) 2) (hn : nl a6 = true) (hk : (a0 :: a1 :: a2 :: a3 :: a4 :: a5 :: a6 :: o :: B).length ≤ kn κ) (kk : X κ n q (a0 :: a1 :: a2 :: a3 :: a4 :: a5 :: a6 :: some (.ref x) :: B) st h) : X κ n pc (a0 :: a1 :: a2 :: a3 :: a4 :: a5 :: a6 :: o :: B) (.ref x :: st) h := x_ast G hd (show 7 < _ by simp) hk (fun w _ hw => by cases hw; exact nl_cat hn) kk
theorem x_iinc7 {a0 a1 a2 a3 a4 a5 a6 : Option Value} {B : List (Option Value)} {m : Int} {x v : Int32} (G : Gc κ own b d) (hd : dc b pc q (.iinc 7 m) 3) (hn : nl a6 = true) (hk : (a0 :: a1 :: a2 :: a3 :: a4 :: a5 :: a6 :: some (.int x) :: B).length ≤ kn κ) (hv : x + Int32.ofInt m = v) (kk : X κ n q (a0 :: a1 :: a2 :: a3 :: a4 :: a5 :: a6 :: some (.int v) :: B) st h) : X κ n pc (a0 :: a1 :: a2 :: a3 :: a4 :: a5 :: a6 :: some (.int x) :: B) st h := x_inc G hd rfl hk (fun w _ hw => by cases hw; exact nl_cat hn) hv kk
theorem x_iload8 {a0 a1 a2 a3 a4 a5 a6 a7 : Option Value} {B : List (Option Value)} {x : Int32} (G : Gc κ own b d) (hd : dc b pc q (.iload 8) 2) (kk : X κ n q (a0 :: a1 :: a2 :: a3 :: a4 :: a5 :: a6 :: a7 :: some (.int x) :: B) (.int x :: st) h) : X κ n pc (a0 :: a1 :: a2 :: a3 :: a4 :: a5 :: a6 :: a7 :: some (.int x) :: B) st h := x_ild G hd rfl kk
theorem x_aload8 {a0 a1 a2 a3 a4 a5 a6 a7 : Option Value} {B : List (Option Value)} {x : Nat} (G : Gc κ own b d) (hd : dc b pc q (.aload 8) 2) (kk : X κ n q (a0 :: a1 :: a2 :: a3 :: a4 :: a5 :: a6 :: a7 :: some (.ref x) :: B) (.ref x :: st) h) : X κ n pc (a0 :: a1 :: a2 :: a3 :: a4 :: a5 :: a6 :: a7 :: some (.ref x) :: B) st h := x_ald G hd rfl kk
theorem x_istore8 {a0 a1 a2 a3 a4 a5 a6 a7 : Option Value} {o : Option Value} {B : List (Option Value)} {x : Int32} (G : Gc κ own b d) (hd : dc b pc q (.istore 8) 2) (hn : nl a7 = true) (hk : (a0 :: a1 :: a2 :: a3 :: a4 :: a5 :: a6 :: a7 :: o :: B).length ≤ kn κ) (kk : X κ n q (a0 :: a1 :: a2 :: a3 :: a4 :: a5 :: a6 :: a7 :: some (.int x) :: B) st h) : X κ n pc (a0 :: a1 :: a2 :: a3 :: a4 :: a5 :: a6 :: a7 :: o :: B) (.int x :: st) h := x_ist G hd (show 8 < _ by simp) hk (fun w _ hw => by cases hw; exact nl_cat hn) kk
theorem x_astore8 {a0 a1 a2 a3 a4 a5 a6 a7 : Option Value} {o : Option Value} {B : List (Option Value)} {x : Nat} (G : Gc κ own b d) (hd : dc b pc q (.astore 8) 2) (hn : nl a7 = true) (hk : (a0 :: a1 :: a2 :: a3 :: a4 :: a5 :: a6 :: a7 :: o :: B).length ≤ kn κ) (kk : X κ n q (a0 :: a1 :: a2 :: a3 :: a4 :: a5 :: a6 :: a7 :: some (.ref x) :: B) st h) : X κ n pc (a0 :: a1 :: a2 :: a3 :: a4 :: a5 :: a6 :: a7 :: o :: B) (.ref x :: st) h := x_ast G hd (show 8 < _ by simp) hk (fun w _ hw => by cases hw; exact nl_cat hn) kk
theorem x_iinc8 {a0 a1 a2 a3 a4 a5 a6 a7 : Option Value} {B : List (Option Value)} {m : Int} {x v : Int32} (G : Gc κ own b d) (hd : dc b pc q (.iinc 8 m) 3) (hn : nl a7 = true) (hk : (a0 :: a1 :: a2 :: a3 :: a4 :: a5 :: a6 :: a7 :: some (.int x) :: B).length ≤ kn κ) (hv : x + Int32.ofInt m = v) (kk : X κ n q (a0 :: a1 :: a2 :: a3 :: a4 :: a5 :: a6 :: a7 :: some (.int v) :: B) st h) : X κ n pc (a0 :: a1 :: a2 :: a3 :: a4 :: a5 :: a6 :: a7 :: some (.int x) :: B) st h := x_inc G hd rfl hk (fun w _ hw => by cases hw; exact nl_cat hn) hv kk
theorem x_iload9 {a0 a1 a2 a3 a4 a5 a6 a7 a8 : Option Value} {B : List (Option Value)} {x : Int32} (G : Gc κ own b d) (hd : dc b pc q (.iload 9) 2) (kk : X κ n q (a0 :: a1 :: a2 :: a3 :: a4 :: a5 :: a6 :: a7 :: a8 :: some (.int x) :: B) (.int x :: st) h) : X κ n pc (a0 :: a1 :: a2 :: a3 :: a4 :: a5 :: a6 :: a7 :: a8 :: some (.int x) :: B) st h := x_ild G hd rfl kk
theorem x_aload9 {a0 a1 a2 a3 a4 a5 a6 a7 a8 : Option Value} {B : List (Option Value)} {x : Nat} (G : Gc κ own b d) (hd : dc b pc q (.aload 9) 2) (kk : X κ n q (a0 :: a1 :: a2 :: a3 :: a4 :: a5 :: a6 :: a7 :: a8 :: some (.ref x) :: B) (.ref x :: st) h) : X κ n pc (a0 :: a1 :: a2 :: a3 :: a4 :: a5 :: a6 :: a7 :: a8 :: some (.ref x) :: B) st h := x_ald G hd rfl kk
theorem x_istore9 {a0 a1 a2 a3 a4 a5 a6 a7 a8 : Option Value} {o : Option Value} {B : List (Option Value)} {x : Int32} (G : Gc κ own b d) (hd : dc b pc q (.istore 9) 2) (hn : nl a8 = true) (hk : (a0 :: a1 :: a2 :: a3 :: a4 :: a5 :: a6 :: a7 :: a8 :: o :: B).length ≤ kn κ) (kk : X κ n q (a0 :: a1 :: a2 :: a3 :: a4 :: a5 :: a6 :: a7 :: a8 :: some (.int x) :: B) st h) : X κ n pc (a0 :: a1 :: a2 :: a3 :: a4 :: a5 :: a6 :: a7 :: a8 :: o :: B) (.int x :: st) h := x_ist G hd (show 9 < _ by simp) hk (fun w _ hw => by cases hw; exact nl_cat hn) kk
theorem x_astore9 {a0 a1 a2 a3 a4 a5 a6 a7 a8 : Option Value} {o : Option Value} {B : List (Option Value)} {x : Nat} (G : Gc κ own b d) (hd : dc b pc q (.astore 9) 2) (hn : nl a8 = true) (hk : (a0 :: a1 :: a2 :: a3 :: a4 :: a5 :: a6 :: a7 :: a8 :: o :: B).length ≤ kn κ) (kk : X κ n q (a0 :: a1 :: a2 :: a3 :: a4 :: a5 :: a6 :: a7 :: a8 :: some (.ref x) :: B) st h) : X κ n pc (a0 :: a1 :: a2 :: a3 :: a4 :: a5 :: a6 :: a7 :: a8 :: o :: B) (.ref x :: st) h := x_ast G hd (show 9 < _ by simp) hk (fun w _ hw => by cases hw; exact nl_cat hn) kk
theorem x_iinc9 {a0 a1 a2 a3 a4 a5 a6 a7 a8 : Option Value} {B : List (Option Value)} {m : Int} {x v : Int32} (G : Gc κ own b d) (hd : dc b pc q (.iinc 9 m) 3) (hn : nl a8 = true) (hk : (a0 :: a1 :: a2 :: a3 :: a4 :: a5 :: a6 :: a7 :: a8 :: some (.int x) :: B).length ≤ kn κ) (hv : x + Int32.ofInt m = v) (kk : X κ n q (a0 :: a1 :: a2 :: a3 :: a4 :: a5 :: a6 :: a7 :: a8 :: some (.int v) :: B) st h) : X κ n pc (a0 :: a1 :: a2 :: a3 :: a4 :: a5 :: a6 :: a7 :: a8 :: some (.int x) :: B) st h := x_inc G hd rfl hk (fun w _ hw => by cases hw; exact nl_cat hn) hv kk
theorem x_iload10 {a0 a1 a2 a3 a4 a5 a6 a7 a8 a9 : Option Value} {B : List (Option Value)} {x : Int32} (G : Gc κ own b d) (hd : dc b pc q (.iload 10) 2) (kk : X κ n q (a0 :: a1 :: a2 :: a3 :: a4 :: a5 :: a6 :: a7 :: a8 :: a9 :: some (.int x) :: B) (.int x :: st) h) : X κ n pc (a0 :: a1 :: a2 :: a3 :: a4 :: a5 :: a6 :: a7 :: a8 :: a9 :: some (.int x) :: B) st h := x_ild G hd rfl kk
theorem x_aload10 {a0 a1 a2 a3 a4 a5 a6 a7 a8 a9 : Option Value} {B : List (Option Value)} {x : Nat} (G : Gc κ own b d) (hd : dc b pc q (.aload 10) 2) (kk : X κ n q (a0 :: a1 :: a2 :: a3 :: a4 :: a5 :: a6 :: a7 :: a8 :: a9 :: some (.ref x) :: B) (.ref x :: st) h) : X κ n pc (a0 :: a1 :: a2 :: a3 :: a4 :: a5 :: a6 :: a7 :: a8 :: a9 :: some (.ref x) :: B) st h := x_ald G hd rfl kk
theorem x_istore10 {a0 a1 a2 a3 a4 a5 a6 a7 a8 a9 : Option Value} {o : Option Value} {B : List (Option Value)} {x : Int32} (G : Gc κ own b d) (hd : dc b pc q (.istore 10) 2) (hn : nl a9 = true) (hk : (a0 :: a1 :: a2 :: a3 :: a4 :: a5 :: a6 :: a7 :: a8 :: a9 :: o :: B).length ≤ kn κ) (kk : X κ n q (a0 :: a1 :: a2 :: a3 :: a4 :: a5 :: a6 :: a7 :: a8 :: a9 :: some (.int x) :: B) st h) : X κ n pc (a0 :: a1 :: a2 :: a3 :: a4 :: a5 :: a6 :: a7 :: a8 :: a9 :: o :: B) (.int x :: st) h := x_ist G hd (show 10 < _ by simp) hk (fun w _ hw => by cases hw; exact nl_cat hn) kk
theorem x_astore10 {a0 a1 a2 a3 a4 a5 a6 a7 a8 a9 : Option Value} {o : Option Value} {B : List (Option Value)} {x : Nat} (G : Gc κ own b d) (hd : dc b pc q (.astore 10) 2) (hn : nl a9 = true) (hk : (a0 :: a1 :: a2 :: a3 :: a4 :: a5 :: a6 :: a7 :: a8 :: a9 :: o :: B).length ≤ kn κ) (kk : X κ n q (a0 :: a1 :: a2 :: a3 :: a4 :: a5 :: a6 :: a7 :: a8 :: a9 :: some (.ref x) :: B) st h) : X κ n pc (a0 :: a1 :: a2 :: a3 :: a4 :: a5 :: a6 :: a7 :: a8 :: a9 :: o :: B) (.ref x :: st) h := x_ast G hd (show 10 < _ by simp) hk (fun w _ hw => by cases hw; exact nl_cat hn) kk
theorem x_iinc10 {a0 a1 a2 a3 a4 a5 a6 a7 a8 a9 : Option Value} {B : List (Option Value)} {m : Int} {x v : Int32} (G : Gc κ own b d) (hd : dc b pc q (.iinc 10 m) 3) (hn : nl a9 = true) (hk : (a0 :: a1 :: a2 :: a3 :: a4 :: a5 :: a6 :: a7 :: a8 :: a9 :: some (.int x) :: B).length ≤ kn κ) (hv : x + Int32.ofInt m = v) (kk : X κ n q (a0 :: a1 :: a2 :: a3 :: a4 :: a5 :: a6 :: a7 :: a8 :: a9 :: some (.int v) :: B) st h) : X κ n pc (a0 :: a1 :: a2 :: a3 :: a4 :: a5 :: a6 :: a7 :: a8 :: a9 :: some (.int x) :: B) st h := x_inc G hd rfl hk (fun w _ hw => by cases hw; exact nl_cat hn) hv kk
theorem x_iload11 {a0 a1 a2 a3 a4 a5 a6 a7 a8 a9 a10 : Option Value} {B : List (Option Value)} {x : Int32} (G : Gc κ own b d) (hd : dc b pc q (.iload 11) 2) (kk : X κ n q (a0 :: a1 :: a2 :: a3 :: a4 :: a5 :: a6 :: a7 :: a8 :: a9 :: a10 :: some (.int x) :: B) (.int x :: st) h) : X κ n pc (a0 :: a1 :: a2 :: a3 :: a4 :: a5 :: a6 :: a7 :: a8 :: a9 :: a10 :: some (.int x) :: B) st h := x_ild G hd rfl kk
theorem x_aload11 {a0 a1 a2 a3 a4 a5 a6 a7 a8 a9 a10 : Option Value} {B : List (Option Value)} {x : Nat} (G : Gc κ own b d) (hd : dc b pc q (.aload 11) 2) (kk : X κ n q (a0 :: a1 :: a2 :: a3 :: a4 :: a5 :: a6 :: a7 :: a8 :: a9 :: a10 :: some (.ref x) :: B) (.ref x :: st) h) : X κ n pc (a0 :: a1 :: a2 :: a3 :: a4 :: a5 :: a6 :: a7 :: a8 :: a9 :: a10 :: some (.ref x) :: B) st h := x_ald G hd rfl kk
theorem x_istore11 {a0 a1 a2 a3 a4 a5 a6 a7 a8 a9 a10 : Option Value} {o : Option Value} {B : List (Option Value)} {x : Int32} (G : Gc κ own b d) (hd : dc b pc q (.istore 11) 2) (hn : nl a10 = true) (hk : (a0 :: a1 :: a2 :: a3 :: a4 :: a5 :: a6 :: a7 :: a8 :: a9 :: a10 :: o :: B).length ≤ kn κ) (kk : X κ n q (a0 :: a1 :: a2 :: a3 :: a4 :: a5 :: a6 :: a7 :: a8 :: a9 :: a10 :: some (.int x) :: B) st h) : X κ n pc (a0 :: a1 :: a2 :: a3 :: a4 :: a5 :: a6 :: a7 :: a8 :: a9 :: a10 :: o :: B) (.int x :: st) h := x_ist G hd (show 11 < _ by simp) hk (fun w _ hw => by cases hw; exact nl_cat hn) kk
theorem x_astore11 {a0 a1 a2 a3 a4 a5 a6 a7 a8 a9 a10 : Option Value} {o : Option Value} {B : List (Option Value)} {x : Nat} (G : Gc κ own b d) (hd : dc b pc q (.astore 11) 2) (hn : nl a10 = true) (hk : (a0 :: a1 :: a2 :: a3 :: a4 :: a5 :: a6 :: a7 :: a8 :: a9 :: a10 :: o :: B).length ≤ kn κ) (kk : X κ n q (a0 :: a1 :: a2 :: a3 :: a4 :: a5 :: a6 :: a7 :: a8 :: a9 :: a10 :: some (.ref x) :: B) st h) : X κ n pc (a0 :: a1 :: a2 :: a3 :: a4 :: a5 :: a6 :: a7 :: a8 :: a9 :: a10 :: o :: B) (.ref x :: st) h := x_ast G hd (show 11 < _ by simp) hk (fun w _ hw => by cases hw; exact nl_cat hn) kk
theorem x_iinc11 {a0 a1 a2 a3 a4 a5 a6 a7 a8 a9 a10 : Option Value} {B : List (Option Value)} {m : Int} {x v : Int32} (G : Gc κ own b d) (hd : dc b pc q (.iinc 11 m) 3) (hn : nl a10 = true) (hk : (a0 :: a1 :: a2 :: a3 :: a4 :: a5 :: a6 :: a7 :: a8 :: a9 :: a10 :: some (.int x) :: B).length ≤ kn κ) (hv : x + Int32.ofInt m = v) (kk : X κ n q (a0 :: a1 :: a2 :: a3 :: a4 :: a5 :: a6 :: a7 :: a8 :: a9 :: a10 :: some (.int v) :: B) st h) : X κ n pc (a0 :: a1 :: a2 :: a3 :: a4 :: a5 :: a6 :: a7 :: a8 :: a9 :: a10 :: some (.int x) :: B) st h := x_inc G hd rfl hk (fun w _ hw => by cases hw; exact nl_cat hn) hv kk
theorem x_iload12 {a0 a1 a2 a3 a4 a5 a6 a7 a8 a9 a10 a11 : Option Value} {B : List (Option Value)} {x : Int32} (G : Gc κ own b d) (hd : dc b pc q (.iload 12) 2) (kk : X κ n q (a0 :: a1 :: a2 :: a3 :: a4 :: a5 :: a6 :: a7 :: a8 :: a9 :: a10 :: a11 :: some (.int x) :: B) (.int x :: st) h) : X κ n pc (a0 :: a1 :: a2 :: a3 :: a4 :: a5 :: a6 :: a7 :: a8 :: a9 :: a10 :: a11 :: some (.int x) :: B) st h := x_ild G hd rfl kk
theorem x_aload12 {a0 a1 a2 a3 a4 a5 a6 a7 a8 a9 a10 a11 : Option Value} {B : List (Option Value)} {x : Nat} (G : Gc κ own b d) (hd : dc b pc q (.aload 12) 2) (kk : X κ n q (a0 :: a1 :: a2 :: a3 :: a4 :: a5 :: a6 :: a7 :: a8 :: a9 :: a10 :: a11 :: some (.ref x) :: B) (.ref x :: st) h) : X κ n pc (a0 :: a1 :: a2 :: a3 :: a4 :: a5 :: a6 :: a7 :: a8 :: a9 :: a10 :: a11 :: some (.ref x) :: B) st h := x_ald G hd rfl kk
theorem x_istore12 {a0 a1 a2 a3 a4 a5 a6 a7 a8 a9 a10 a11 : Option Value} {o : Option Value} {B : List (Option Value)} {x : Int32} (G : Gc κ own b d) (hd : dc b pc q (.istore 12) 2) (hn : nl a11 = true) (hk : (a0 :: a1 :: a2 :: a3 :: a4 :: a5 :: a6 :: a7 :: a8 :: a9 :: a10 :: a11 :: o :: B).length ≤ kn κ) (kk : X κ n q (a0 :: a1 :: a2 :: a3 :: a4 :: a5 :: a6 :: a7 :: a8 :: a9 :: a10 :: a11 :: some (.int x) :: B) st h) : X κ n pc (a0 :: a1 :: a2 :: a3 :: a4 :: a5 :: a6 :: a7 :: a8 :: a9 :: a10 :: a11 :: o :: B) (.int x :: st) h := x_ist G hd (show 12 < _ by simp) hk (fun w _ hw => by cases hw; exact nl_cat hn) kk
theorem x_astore12 {a0 a1 a2 a3 a4 a5 a6 a7 a8 a9 a10 a11 : Option Value} {o : Option Value} {B : List (Option Value)} {x : Nat} (G : Gc κ own b d) (hd : dc b pc q (.astore 12) 2) (hn : nl a11 = true) (hk : (a0 :: a1 :: a2 :: a3 :: a4 :: a5 :: a6 :: a7 :: a8 :: a9 :: a10 :: a11 :: o :: B).length ≤ kn κ) (kk : X κ n q (a0 :: a1 :: a2 :: a3 :: a4 :: a5 :: a6 :: a7 :: a8 :: a9 :: a10 :: a11 :: some (.ref x) :: B) st h) : X κ n pc (a0 :: a1 :: a2 :: a3 :: a4 :: a5 :: a6 :: a7 :: a8 :: a9 :: a10 :: a11 :: o :: B) (.ref x :: st) h := x_ast G hd (show 12 < _ by simp) hk (fun w _ hw => by cases hw; exact nl_cat hn) kk
theorem x_iinc12 {a0 a1 a2 a3 a4 a5 a6 a7 a8 a9 a10 a11 : Option Value} {B : List (Option Value)} {m : Int} {x v : Int32} (G : Gc κ own b d) (hd : dc b pc q (.iinc 12 m) 3) (hn : nl a11 = true) (hk : (a0 :: a1 :: a2 :: a3 :: a4 :: a5 :: a6 :: a7 :: a8 :: a9 :: a10 :: a11 :: some (.int x) :: B).length ≤ kn κ) (hv : x + Int32.ofInt m = v) (kk : X κ n q (a0 :: a1 :: a2 :: a3 :: a4 :: a5 :: a6 :: a7 :: a8 :: a9 :: a10 :: a11 :: some (.int v) :: B) st h) : X κ n pc (a0 :: a1 :: a2 :: a3 :: a4 :: a5 :: a6 :: a7 :: a8 :: a9 :: a10 :: a11 :: some (.int x) :: B) st h := x_inc G hd rfl hk (fun w _ hw => by cases hw; exact nl_cat hn) hv kk
end XB
