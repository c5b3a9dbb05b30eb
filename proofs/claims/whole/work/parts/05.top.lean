/-! where the fixed references of the finished world point; a world as ints -/
def rtL : List (List (Option Nat)) := [[some 1, some 8, some 28, some 43, some 58, some 73, some 76, some 77, some 78, some 79, some 80], [some 2, some 3, some 4, some 5, some 6, some 7], [], [], [], [], [], [], [some 9, some 24, some 25, some 26, some 27], [some 10, some 11, some 12, some 13, some 14, some 15, some 16, some 17, some 18, some 19, some 20, some 21, some 22, some 23], [], [], [], [], [], [], [], [], [], [], [], [], [], [], [], [], [], [], [some 1, some 8, some 29, some 36, some 40, some 41, some 42], [some 30, some 31, some 32, some 33, some 34, some 35], [], [], [], [], [], [], [some 37, some 38, some 39], [], [], [], [], [], [], [some 1, some 8, some 44, some 51, some 55, some 56, some 57], [some 45, some 46, some 47, some 48, some 49, some 50], [], [], [], [], [], [], [some 52, some 53, some 54], [], [], [], [], [], [], [some 1, some 8, some 59, some 66, some 70, some 71, some 72], [some 60, some 61, some 62, some 63, some 64, some 65], [], [], [], [], [], [], [some 67, some 68, some 69], [], [], [], [], [], [], [some 74, some 75], [], [], [some 81, some 84, some 87, some 90], [some 93, some 97, some 101, some 105, some 109], [], [], [], [some 82, some 83], [], [], [some 85, some 86], [], [], [some 88, some 89], [], [], [some 91, some 92], [], [], [some 94], [some 95, some 96], [], [], [some 98], [some 99, some 100], [], [], [some 102], [some 103, some 104], [], [], [some 106], [some 107, some 108], [], [], [some 110], [some 111, some 112], [], [], [some 114, some 115, some 116, none, some 117, some 118, some 119, some 120, some 121, some 122, some 123, some 124, some 125, none, some 126, some 127, some 128, some 129, none, none, none, none, none, none, none, none, none, none, none, some 130, some 131, some 132, some 133, none, some 134], [], [], [], [], [], [], [], [], [], [], [], [], [], [], [], [], [], [], [], [], []]
def rt (k j : Nat) : Option Nat := (rtL.getD k []).getD j none
abbrev Sg : Type := Nat → Nat → Int32
/-- the field kind of a slot: a reference that changes (0: null) -/
def isK (k j : Nat) : Bool := j == 2 && (k == 93 || (k == 97 || (k == 101 || (k == 105 || k == 109))))
def hv (σ : Sg) : Hp := fun k j => match rt k j with
  | some t => .ref t
  | none => if isK k j then (if σ k j = 0 then .null else .ref (σ k j).toNatClampNeg) else .int (σ k j)
def updS (σ : Sg) (k j : Nat) (x : Int32) : Sg := fun a b => if a = k ∧ b = j then x else σ a b
def ivk (k j : Nat) : Bool := (rt k j).isNone && !isK k j
theorem hv_ref {σ : Sg} {k j t : Nat} (h : rt k j = some t) : hv σ k j = .ref t := by simp [hv, h]
theorem ivk_sp {k j : Nat} (h : ivk k j = true) : rt k j = none ∧ isK k j = false := by
  simp only [ivk, Bool.and_eq_true, Option.isNone_iff_eq_none, Bool.not_eq_true'] at h
  exact h
theorem hv_int {σ : Sg} {k j : Nat} (h : ivk k j = true) : hv σ k j = .int (σ k j) := by
  obtain ⟨h1, h2⟩ := ivk_sp h
  simp [hv, h1, h2]
theorem hv_upd {σ : Sg} {k j : Nat} {x : Int32} (h : ivk k j = true) : updh (hv σ) k j (.int x) = hv (updS σ k j x) := by
  obtain ⟨h1, h2⟩ := ivk_sp h
  funext a b
  by_cases hab : a = k ∧ b = j
  · obtain ⟨rfl, rfl⟩ := hab
    simp [updh, hv, h1, h2, updS]
  · simp [updh, hab, hv, updS]
theorem updS_at {σ : Sg} {k j : Nat} {x : Int32} : updS σ k j x k j = x := by simp [updS]
theorem updS_ne {σ : Sg} {k j a b : Nat} {x : Int32} (h : ¬ (a = k ∧ b = j)) : updS σ k j x a b = σ a b := if_neg h
theorem updS_nk {σ : Sg} {k j a : Nat} {x : Int32} (h : a ≠ k) : updS σ k j x a = σ a := by funext b; simp [updS, h]
theorem updS_row {σ : Sg} {k j : Nat} {x : Int32} : updS σ k j x k = upd (σ k) j x := by funext b; simp [updS, upd]
set_option maxRecDepth 100000 in
theorem shp_arr0 : ∀ k, k < 135 → ∀ ty, ty < 2 → ∀ q, shp k = .inr q → q.1 = ty → rtL.getD k [] = [] ∧ (k == 93 || (k == 97 || (k == 101 || (k == 105 || k == 109)))) = false := by
  have h : ∀ k, k < 135 → (match shp k with
    | .inl _ => true
    | .inr q => !(decide (q.1 < 2)) || (decide (rtL.getD k [] = []) && !(k == 93 || (k == 97 || (k == 101 || (k == 105 || k == 109)))))) = true := by decide +kernel
  intro k hk ty hty q hq h1
  have := h k hk
  rw [hq] at this
  subst h1
  simpa [hty] using this
theorem shp_len : (nshp ++ mshp).length = 135 := by decide +kernel
theorem shp_lt {k ty len : Nat} (hs : shp k = .inr (ty, len)) (hl : 0 < len) : k < 135 := by
  rcases Nat.lt_or_ge k 135 with h | h
  · exact h
  · exfalso
    have : shp k = .inr (0, 0) := by
      unfold shp
      rw [List.getD_eq_getElem?_getD, List.getElem?_eq_none (by rw [shp_len]; exact h)]
      rfl
    rw [this] at hs
    cases hs
    omega
theorem arr_ivk {k ty len j : Nat} (hs : shp k = .inr (ty, len)) (ht : ty < 2) (hk : k < 135) : ivk k j = true := by
  obtain ⟨h1, h2⟩ := shp_arr0 k hk ty ht _ hs rfl
  simp only [ivk, rt, h1, isK, h2, Bool.and_false]
  rfl
/-- the cells of the finished world -/
abbrev NC : Nat := 135
/-- a method over the finished world -/
def RunM (g : CX) (d : Nat) (μ : MD) (av : List Value) (σ : Sg) (Post : Option Value → Sg → Prop) : Prop := Runs g d μ av NC (hv σ) NC (fun r h => ∃ σ' : Sg, h = hv σ' ∧ Post r σ')
section XM
variable {κ : KX} {own : String} {b : ByteArray} {d : Nat}
variable {pc q : Nat} {L : List (Option Value)} {st : List Value} {σ : Sg}
theorem m_geti {idx ci j k : Nat} (G : Gc κ own b d) (hd : dc b pc q (.getfield idx) 3) (fl : FL own idx ci j) (hs : shp k = .inl ci) (hk : k < 135) (hi : ivk k j = true) (kk : X κ NC q L (.int (σ k j) :: st) (hv σ)) : X κ NC pc L (.ref k :: st) (hv σ) :=
  x_get G hd fl hs ⟨hk, by decide⟩ (by rw [hv_int hi]; exact kk)
theorem m_getr {idx ci j k t : Nat} (G : Gc κ own b d) (hd : dc b pc q (.getfield idx) 3) (fl : FL own idx ci j) (hs : shp k = .inl ci) (hk : k < 135) (hr : rt k j = some t) (kk : X κ NC q L (.ref t :: st) (hv σ)) : X κ NC pc L (.ref k :: st) (hv σ) :=
  x_get G hd fl hs ⟨hk, by decide⟩ (by rw [hv_ref hr]; exact kk)
theorem m_puti {idx ci j k : Nat} {x : Int32} (G : Gc κ own b d) (hd : dc b pc q (.putfield idx) 3) (fl : FL own idx ci j) (hs : shp k = .inl ci) (hk : k < 135) (hi : ivk k j = true) (hf : ((gcl ci).2.1 j).2.2.2 = false) (ht : clty ci j = .int) (kk : X κ NC q L st (hv (updS σ k j x))) : X κ NC pc L (.int x :: .ref k :: st) (hv σ) :=
  x_put G hd fl hs ⟨hk, by decide⟩ hf (by rw [ht]; rfl) (by rw [ht]; rfl) (by rw [hv_upd hi]; exact kk)
theorem m_putz {idx ci j k : Nat} {x : Int32} (G : Gc κ own b d) (hd : dc b pc q (.putfield idx) 3) (fl : FL own idx ci j) (hs : shp k = .inl ci) (hk : k < 135) (hi : ivk k j = true) (hf : ((gcl ci).2.1 j).2.2.2 = false) (ht : clty ci j = .boolean) (hx : x = 0 ∨ x = 1) (kk : X κ NC q L st (hv (updS σ k j x))) : X κ NC pc L (.int x :: .ref k :: st) (hv σ) :=
  x_put G hd fl hs ⟨hk, by decide⟩ hf (by rw [ht]; rcases hx with rfl | rfl <;> rfl) (by rw [ht]; rcases hx with rfl | rfl <;> first | exact (show fits .boolean (.int 0) = true by decide +kernel) | exact (show fits .boolean (.int 1) = true by decide +kernel)) (by rw [hv_upd hi]; exact kk)
theorem m_iald {k len : Nat} {i : Int32} (j : Nat) (G : Gc κ own b d) (hd : dc b pc q .iaload 1) (hs : shp k = .inr (0, len)) (hi : i = nI j) (hj : j < len ∧ len < 2 ^ 31) (kk : X κ NC q L (.int (σ k j) :: st) (hv σ)) : X κ NC pc L (.int i :: .ref k :: st) (hv σ) :=
  have hk := shp_lt hs (by omega)
  x_iald G hd hs ⟨hk, by decide⟩ j hi hj (hv_int (arr_ivk hs (by decide) hk)) kk
theorem m_zald {k len : Nat} {i : Int32} (j : Nat) (G : Gc κ own b d) (hd : dc b pc q .baload 1) (hs : shp k = .inr (1, len)) (hi : i = nI j) (hj : j < len ∧ len < 2 ^ 31) (kk : X κ NC q L (.int (σ k j) :: st) (hv σ)) : X κ NC pc L (.int i :: .ref k :: st) (hv σ) :=
  have hk := shp_lt hs (by omega)
  x_zald G hd hs ⟨hk, by decide⟩ j hi hj (hv_int (arr_ivk hs (by decide) hk)) kk
theorem m_iast {k len : Nat} {i x : Int32} (j : Nat) (G : Gc κ own b d) (hd : dc b pc q .iastore 1) (hs : shp k = .inr (0, len)) (hi : i = nI j) (hj : j < len ∧ len < 2 ^ 31) (kk : X κ NC q L st (hv (updS σ k j x))) : X κ NC pc L (.int x :: .int i :: .ref k :: st) (hv σ) :=
  have hk := shp_lt hs (by omega)
  x_iast G hd hs ⟨hk, by decide⟩ j hi hj (by rw [hv_upd (arr_ivk hs (by decide) hk)]; exact kk)
theorem m_zast {k len : Nat} {i x : Int32} (j : Nat) (G : Gc κ own b d) (hd : dc b pc q .bastore 1) (hs : shp k = .inr (1, len)) (hi : i = nI j) (hj : j < len ∧ len < 2 ^ 31) (hx : x = 0 ∨ x = 1) (kk : X κ NC q L st (hv (updS σ k j x))) : X κ NC pc L (.int x :: .int i :: .ref k :: st) (hv σ) :=
  have hk := shp_lt hs (by omega)
  x_zast G hd hs ⟨hk, by decide⟩ j hi hj (by rcases hx with rfl | rfl <;> decide +kernel) (by rw [hv_upd (arr_ivk hs (by decide) hk)]; exact kk)
theorem m_aald {k ty len t : Nat} {i : Int32} (j : Nat) (G : Gc κ own b d) (hd : dc b pc q .aaload 1) (hs : shp k = .inr (ty, len)) (hty : 1 < ty ∧ ty < 6) (hi : i = nI j) (hj : j < len ∧ len < 2 ^ 31) (hr : rt k j = some t) (kk : X κ NC q L (.ref t :: st) (hv σ)) : X κ NC pc L (.int i :: .ref k :: st) (hv σ) :=
  x_aald G hd hs hty ⟨shp_lt hs (by omega), by decide⟩ j hi hj (hv_ref hr) kk
theorem m_alen {k ty len : Nat} {v : Int32} (G : Gc κ own b d) (hd : dc b pc q .arraylength 1) (hs : shp k = .inr (ty, len)) (hty : ty < 6) (hk : k < 135) (hv' : Int32.ofNat len = v) (kk : X κ NC q L (.int v :: st) (hv σ)) : X κ NC pc L (.ref k :: st) (hv σ) :=
  x_alen G hd hs hty ⟨hk, by decide⟩ hv' kk
theorem m_callV {idx na k ci d' : Nat} {μ : MD} {As : List Value} {Post : Option Value → Sg → Prop} (hM : RunM (kg κ) d' μ (.ref k :: As) σ Post) (G : Gc κ own b d) (hd : dc b pc q (.invokevirtual idx) 3) (lk : LkV own idx μ na) (hs : shp k = .inl ci) (hcn : ci < 13 ∧ (gcl ci).1 = μ.1.cls) (hk : k < 135) (hd' : d' + 1 ≤ d) (hna : As.length = na) (hw : (st.map fun v => v.category).sum ≤ 8) (hx : kx κ = NC) (kk : ∀ r σ', Post r σ' → X κ NC q L (r.toList ++ st) (hv σ')) : X κ NC pc L (As.reverse ++ .ref k :: st) (hv σ) :=
  x_callV hM G hd lk hs hcn ⟨hk, by decide⟩ hd' hna hw ⟨Nat.le_refl _, by rw [hx]; exact Nat.le_refl _⟩ (fun r h' ⟨σ', e, hp⟩ => by rw [e]; exact kk r σ' hp)
theorem m_callS {idx na d' : Nat} {μ : MD} {As : List Value} {Post : Option Value → Sg → Prop} (hM : RunM (kg κ) d' μ As σ Post) (G : Gc κ own b d) (hd : dc b pc q (.invokestatic idx) 3) (lk : LkS own idx μ na) (hd' : d' + 1 ≤ d) (hna : As.length = na) (hw : (st.map fun v => v.category).sum ≤ 8) (hx : kx κ = NC) (kk : ∀ r σ', Post r σ' → X κ NC q L (r.toList ++ st) (hv σ')) : X κ NC pc L (As.reverse ++ st) (hv σ) :=
  x_callS hM G hd lk hd' hna hw ⟨Nat.le_refl _, by rw [hx]; exact Nat.le_refl _⟩ (fun r h' ⟨σ', e, hp⟩ => by rw [e]; exact kk r σ' hp)
/-- a walk's own end: what must hold of the answer and of the world -/
def Em (κ : KX) (μ : MD) (Post : Option Value → Sg → Prop) : Prop := Ge κ μ (fun r h => ∃ σ' : Sg, h = hv σ' ∧ Post r σ')
theorem m_iret {μ : MD} {ty : FieldType} {v : Int32} {Post : Option Value → Sg → Prop} (E : Em κ μ Post) (G : Gc κ own b d) (hd : dc b pc q .ireturn 1) (hx : kx κ = NC) (hr : μ.2.2.2 = some ty) (hn : narrow ty (.int v) = .int v) (hp : Post (some (.int v)) σ) : X κ NC pc L [.int v] (hv σ) :=
  x_iret G E hd hx.symm hr hn ⟨σ, rfl, hp⟩
theorem m_vret {μ : MD} {Post : Option Value → Sg → Prop} (E : Em κ μ Post) (G : Gc κ own b d) (hd : dc b pc q .return_ 1) (hx : kx κ = NC) (hr : μ.2.2.2 = none) (hp : Post none σ) : X κ NC pc L [] (hv σ) :=
  x_vret G E hd hx.symm hr ⟨σ, rfl, hp⟩
theorem m_aret {μ : MD} {nm : String} {r : Nat} {Post : Option Value → Sg → Prop} (E : Em κ μ Post) (G : Gc κ own b d) (hd : dc b pc q .areturn 1) (hx : kx κ = NC) (hr : μ.2.2.2 = some (.object nm)) (hp : Post (some (.ref r)) σ) : X κ NC pc L [.ref r] (hv σ) :=
  x_aret G E hd hx.symm hr ⟨σ, rfl, hp⟩
theorem RunM.of {g : CX} {μ : MD} {av : List Value} {Post : Option Value → Sg → Prop} (m : Nat) (hy : plainName μ.1.cls = true) (hlen : (lin av).length + m = μ.2.2.1)
    (body : ∀ κ : KX, kg κ = g → kx κ = NC → kn κ = μ.2.2.1 → Gc κ μ.1.cls μ.2.1 d → Em κ μ Post → X κ NC 0 (lin av ++ List.replicate m none) [] (hv σ)) : RunM g d μ av σ Post :=
  Runs.of m hy hlen (Nat.le_refl _) (fun κ h1 _ h3 h4 G E => body κ h1 h3 h4 G E)
theorem RunM.imp {g : CX} {μ : MD} {av : List Value} {Post Post' : Option Value → Sg → Prop} (hM : RunM g d μ av σ Post) (hi : ∀ r σ', Post r σ' → Post' r σ') : RunM g d μ av σ Post' := by
  intro p e h1 h2 h3 s m args below hf hS hP hk
  obtain ⟨k, o, q1, q2, q3, ⟨r, h', e1, ⟨σ', e2, hp⟩, e3⟩, q5⟩ := hM p e h1 h2 h3 s m args below hf hS hP hk
  exact ⟨k, o, q1, q2, q3, ⟨r, h', e1, ⟨σ', e2, hi r σ' hp⟩, e3⟩, q5⟩
end XM
