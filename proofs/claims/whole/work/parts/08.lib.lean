/-! answers' forms, numbers, the cells of a World, a Sheet, a Slot -/
def PI (v : Int32) (σ : Sg) : Option Value → Sg → Prop := fun r σ' => r = some (.int v) ∧ σ' = σ
def PF (k : Nat) (σ : Sg) : Option Value → Sg → Prop := fun r σ' => r = some (.ref k) ∧ σ' = σ
def PV (P : Sg → Prop) : Option Value → Sg → Prop := fun r σ' => r = none ∧ P σ'
def PR (P : Int32 → Sg → Prop) : Option Value → Sg → Prop := fun r σ' => ∃ v, r = some (.int v) ∧ P v σ'
section XC
variable {κ : KX} {own : String} {b : ByteArray} {d : Nat} {pc q : Nat} {L : List (Option Value)} {st : List Value} {σ : Sg}
variable {idx na k ci d' : Nat} {μ : MD} {As : List Value}
theorem m_callV_pi {v : Int32} {σ1 : Sg} (hM : RunM (kg κ) d' μ (.ref k :: As) σ (PI v σ1)) (G : Gc κ own b d) (hd : dc b pc q (.invokevirtual idx) 3) (lk : LkV own idx μ na) (hs : shp k = .inl ci) (hcn : ci < 13 ∧ (gcl ci).1 = μ.1.cls) (hk : k < 135) (hd' : d' + 1 ≤ d) (hna : As.length = na) (hw : (st.map fun v => v.category).sum ≤ 8) (hx : kx κ = NC) (kk : X κ NC q L (.int v :: st) (hv σ1)) : X κ NC pc L (As.reverse ++ .ref k :: st) (hv σ) :=
  m_callV hM G hd lk hs hcn hk hd' hna hw hx (fun r σ' ⟨e1, e2⟩ => by subst e1; subst e2; exact kk)
theorem m_callV_pf {v : Nat} (hM : RunM (kg κ) d' μ (.ref k :: As) σ (PF v σ)) (G : Gc κ own b d) (hd : dc b pc q (.invokevirtual idx) 3) (lk : LkV own idx μ na) (hs : shp k = .inl ci) (hcn : ci < 13 ∧ (gcl ci).1 = μ.1.cls) (hk : k < 135) (hd' : d' + 1 ≤ d) (hna : As.length = na) (hw : (st.map fun v => v.category).sum ≤ 8) (hx : kx κ = NC) (kk : X κ NC q L (.ref v :: st) (hv σ)) : X κ NC pc L (As.reverse ++ .ref k :: st) (hv σ) :=
  m_callV hM G hd lk hs hcn hk hd' hna hw hx (fun r σ' ⟨e1, e2⟩ => by subst e1; subst e2; exact kk)
theorem m_callV_pv {P : Sg → Prop} (hM : RunM (kg κ) d' μ (.ref k :: As) σ (PV P)) (G : Gc κ own b d) (hd : dc b pc q (.invokevirtual idx) 3) (lk : LkV own idx μ na) (hs : shp k = .inl ci) (hcn : ci < 13 ∧ (gcl ci).1 = μ.1.cls) (hk : k < 135) (hd' : d' + 1 ≤ d) (hna : As.length = na) (hw : (st.map fun v => v.category).sum ≤ 8) (hx : kx κ = NC) (kk : ∀ σ', P σ' → X κ NC q L st (hv σ')) : X κ NC pc L (As.reverse ++ .ref k :: st) (hv σ) :=
  m_callV hM G hd lk hs hcn hk hd' hna hw hx (fun r σ' ⟨e1, e2⟩ => by subst e1; exact kk σ' e2)
theorem m_callV_pr {P : Int32 → Sg → Prop} (hM : RunM (kg κ) d' μ (.ref k :: As) σ (PR P)) (G : Gc κ own b d) (hd : dc b pc q (.invokevirtual idx) 3) (lk : LkV own idx μ na) (hs : shp k = .inl ci) (hcn : ci < 13 ∧ (gcl ci).1 = μ.1.cls) (hk : k < 135) (hd' : d' + 1 ≤ d) (hna : As.length = na) (hw : (st.map fun v => v.category).sum ≤ 8) (hx : kx κ = NC) (kk : ∀ v σ', P v σ' → X κ NC q L (.int v :: st) (hv σ')) : X κ NC pc L (As.reverse ++ .ref k :: st) (hv σ) :=
  m_callV hM G hd lk hs hcn hk hd' hna hw hx (fun r σ' ⟨v, e1, e2⟩ => by subst e1; exact kk v σ' e2)
theorem m_callS_pi {v : Int32} {σ1 : Sg} (hM : RunM (kg κ) d' μ As σ (PI v σ1)) (G : Gc κ own b d) (hd : dc b pc q (.invokestatic idx) 3) (lk : LkS own idx μ na) (hd' : d' + 1 ≤ d) (hna : As.length = na) (hw : (st.map fun v => v.category).sum ≤ 8) (hx : kx κ = NC) (kk : X κ NC q L (.int v :: st) (hv σ1)) : X κ NC pc L (As.reverse ++ st) (hv σ) :=
  m_callS hM G hd lk hd' hna hw hx (fun r σ' ⟨e1, e2⟩ => by subst e1; subst e2; exact kk)
theorem m_callS_pr {P : Int32 → Sg → Prop} (hM : RunM (kg κ) d' μ As σ (PR P)) (G : Gc κ own b d) (hd : dc b pc q (.invokestatic idx) 3) (lk : LkS own idx μ na) (hd' : d' + 1 ≤ d) (hna : As.length = na) (hw : (st.map fun v => v.category).sum ≤ 8) (hx : kx κ = NC) (kk : ∀ v σ', P v σ' → X κ NC q L (.int v :: st) (hv σ')) : X κ NC pc L (As.reverse ++ st) (hv σ) :=
  m_callS hM G hd lk hd' hna hw hx (fun r σ' ⟨v, e1, e2⟩ => by subst e1; exact kk v σ' e2)
end XC
/-! numbers -/
def bI (p : Bool) : Int32 := if p then 1 else 0
theorem bI_t : bI true = 1 := rfl
theorem bI_f : bI false = 0 := rfl
theorem bI_0 {p : Bool} : bI p = 0 ↔ p = false := by cases p <;> decide
theorem bI_n0 {p : Bool} : (¬ bI p = 0) ↔ p = true := by cases p <;> decide
theorem bI_z (p : Bool) : narrow .boolean (.int (bI p)) = .int (bI p) := by cases p <;> rfl
theorem bI_o (p : Bool) : bI p = 0 ∨ bI p = 1 := by cases p <;> decide
theorem nI1 : nI 1 = 1 := rfl
def upB (v m : Int32) : Bool := !(decide (v < 0)) && !(decide (m < v))
def isO (n one : Int32) : Bool := !(decide (one < 0)) && !(decide (n ≤ one))
def tn (x : Int32) : Nat := x.toNatClampNeg
theorem tn_nI {n : Nat} (h : n < 2 ^ 31) : tn (nI n) = n := nI_clamp h
/-- x is a whole number from 0 to m -/
def In (x : Int32) (m : Nat) : Prop := x = nI (tn x) ∧ tn x ≤ m
theorem nlt {a b : Nat} (ha : a < 2 ^ 31) (hb : b < 2 ^ 31) : nI a < nI b ↔ a < b := by
  rw [Int32.lt_iff_toInt_lt, nI_toInt ha, nI_toInt hb]; omega
theorem nle {a b : Nat} (ha : a < 2 ^ 31) (hb : b < 2 ^ 31) : nI a ≤ nI b ↔ a ≤ b := by
  rw [Int32.le_iff_toInt_le, nI_toInt ha, nI_toInt hb]; omega
theorem neq {a b : Nat} (ha : a < 2 ^ 31) (hb : b < 2 ^ 31) : nI a = nI b ↔ a = b := by
  refine ⟨fun h => ?_, fun h => by rw [h]⟩
  have := congrArg Int32.toInt h
  rw [nI_toInt ha, nI_toInt hb] at this
  omega
theorem In.mk' {n m : Nat} (h : n ≤ m) (hm : m < 2 ^ 31) : In (nI n) m := by
  have : tn (nI n) = n := tn_nI (by omega)
  exact ⟨by rw [this], by rw [this]; exact h⟩
theorem In_iff {x : Int32} {m : Nat} (hm : m < 2 ^ 30) : In x m ↔ (0 ≤ x ∧ x ≤ nI m) := by
  constructor
  · rintro ⟨h1, h2⟩
    have hx : tn x < 2 ^ 31 := by omega
    rw [h1]
    exact ⟨nI_pos' hx, (nle hx (by omega)).mpr h2⟩
  · rintro ⟨h1, h2⟩
    rcases pk_ix x (n := m + 1) (by omega) with h | h | ⟨j, hj, rfl⟩
    · exact absurd h (Int32.not_lt.mpr h1)
    · have h3 := Int32.le_trans h h2
      rw [nle (by omega) (by omega)] at h3
      omega
    · exact In.mk' (by omega) (by omega)
theorem upB_In {x : Int32} {m : Nat} (hm : m < 2 ^ 30) : upB x (nI m) = true ↔ In x m := by
  rw [In_iff hm]
  simp [upB, Int32.not_lt]
theorem In.ex {x : Int32} {m : Nat} (h : In x m) : ∃ k, x = nI k ∧ k ≤ m := ⟨_, h.1, h.2⟩
theorem In.weak {x : Int32} {m m' : Nat} (h : In x m) (hm : m ≤ m') : In x m' := ⟨h.1, Nat.le_trans h.2 hm⟩
/-! the cells of a World (at w), a Sheet (at k), a Slot (at k) -/
def isW (w : Nat) : Prop := w = 28 ∨ w = 43 ∨ w = 58
theorem W_o {w : Nat} (h : isW w) : shp w = .inl 8 := by rcases h with rfl | rfl | rfl <;> rfl
theorem W_l {w : Nat} (h : isW w) : w < 135 := by rcases h with rfl | rfl | rfl <;> decide
theorem W_i {w : Nat} (h : isW w) : ∀ j, j < 14 → 7 ≤ j → ivk w j = true := by
  rcases h with rfl | rfl | rfl <;> decide +kernel
theorem W_ij {w : Nat} (h : isW w) (j : Nat) (h1 : 7 ≤ j) (h2 : j < 14) : ivk w j = true := W_i h j h2 h1
theorem W_r0 {w : Nat} (h : isW w) : rt w 0 = some 1 := by rcases h with rfl | rfl | rfl <;> rfl
theorem W_r1 {w : Nat} (h : isW w) : rt w 1 = some 8 := by rcases h with rfl | rfl | rfl <;> rfl
theorem W_r2 {w : Nat} (h : isW w) : rt w 2 = some (w + 1) := by rcases h with rfl | rfl | rfl <;> rfl
theorem W_r3 {w : Nat} (h : isW w) : rt w 3 = some (w + 8) := by rcases h with rfl | rfl | rfl <;> rfl
theorem W_r4 {w : Nat} (h : isW w) : rt w 4 = some (w + 12) := by rcases h with rfl | rfl | rfl <;> rfl
theorem W_r5 {w : Nat} (h : isW w) : rt w 5 = some (w + 13) := by rcases h with rfl | rfl | rfl <;> rfl
theorem W_r6 {w : Nat} (h : isW w) : rt w 6 = some (w + 14) := by rcases h with rfl | rfl | rfl <;> rfl
theorem W_s1 {w : Nat} (h : isW w) : shp (w + 1) = .inr (3, 6) := by rcases h with rfl | rfl | rfl <;> rfl
theorem W_s8 {w : Nat} (h : isW w) : shp (w + 8) = .inr (3, 3) := by rcases h with rfl | rfl | rfl <;> rfl
theorem W_s12 {w : Nat} (h : isW w) : shp (w + 12) = .inr (0, 8) := by rcases h with rfl | rfl | rfl <;> rfl
theorem W_s13 {w : Nat} (h : isW w) : shp (w + 13) = .inr (0, 8) := by rcases h with rfl | rfl | rfl <;> rfl
theorem W_s14 {w : Nat} (h : isW w) : shp (w + 14) = .inr (0, 3) := by rcases h with rfl | rfl | rfl <;> rfl
theorem W_p {w : Nat} (h : isW w) {k : Nat} (hk : k < 6) : rt (w + 1) k = some (w + 2 + k) := by
  have q : ∀ k, k < 6 → rt (w + 1) k = some (w + 2 + k) := by rcases h with rfl | rfl | rfl <;> decide +kernel
  exact q k hk
theorem W_f {w : Nat} (h : isW w) {k : Nat} (hk : k < 3) : rt (w + 8) k = some (w + 9 + k) := by
  have q : ∀ k, k < 3 → rt (w + 8) k = some (w + 9 + k) := by rcases h with rfl | rfl | rfl <;> decide +kernel
  exact q k hk
theorem W_sp {w : Nat} (h : isW w) {k : Nat} (hk : k < 6) : shp (w + 2 + k) = .inr (0, 8) := by
  have q : ∀ k, k < 6 → shp (w + 2 + k) = .inr (0, 8) := by rcases h with rfl | rfl | rfl <;> decide +kernel
  exact q k hk
theorem W_sf {w : Nat} (h : isW w) {k : Nat} (hk : k < 3) : shp (w + 9 + k) = .inr (0, 9) := by
  have q : ∀ k, k < 3 → shp (w + 9 + k) = .inr (0, 9) := by rcases h with rfl | rfl | rfl <;> decide +kernel
  exact q k hk
/-- the Sheets: four of the object's, five of the slots -/
def isS (k : Nat) : Prop := k = 81 ∨ k = 84 ∨ k = 87 ∨ k = 90 ∨ k = 94 ∨ k = 98 ∨ k = 102 ∨ k = 106 ∨ k = 110
theorem S_o {w : Nat} (h : isS w) : shp w = .inl 10 := by rcases h with rfl | rfl | rfl | rfl | rfl | rfl | rfl | rfl | rfl <;> rfl
theorem S_l {w : Nat} (h : isS w) : w < 135 := by rcases h with rfl | rfl | rfl | rfl | rfl | rfl | rfl | rfl | rfl <;> decide
theorem S_i {w : Nat} (h : isS w) : ∀ j, j < 4 → 2 ≤ j → ivk w j = true := by rcases h with rfl | rfl | rfl | rfl | rfl | rfl | rfl | rfl | rfl <;> decide +kernel
theorem S_ij {w : Nat} (h : isS w) (j : Nat) (h1 : 2 ≤ j) (h2 : j < 4) : ivk w j = true := S_i h j h2 h1
theorem S_r0 {w : Nat} (h : isS w) : rt w 0 = some (w + 1) := by rcases h with rfl | rfl | rfl | rfl | rfl | rfl | rfl | rfl | rfl <;> rfl
theorem S_r1 {w : Nat} (h : isS w) : rt w 1 = some (w + 2) := by rcases h with rfl | rfl | rfl | rfl | rfl | rfl | rfl | rfl | rfl <;> rfl
theorem S_s1 {w : Nat} (h : isS w) : shp (w + 1) = .inr (0, 24) := by rcases h with rfl | rfl | rfl | rfl | rfl | rfl | rfl | rfl | rfl <;> rfl
theorem S_s2 {w : Nat} (h : isS w) : shp (w + 2) = .inr (1, 24) := by rcases h with rfl | rfl | rfl | rfl | rfl | rfl | rfl | rfl | rfl <;> rfl
theorem S_of {k : Nat} (h : k < 4) : isS (81 + 3 * k) ∧ rt 76 k = some (81 + 3 * k) := by
  rcases (show k = 0 ∨ k = 1 ∨ k = 2 ∨ k = 3 by omega) with rfl | rfl | rfl | rfl <;> exact ⟨by simp [isS], rfl⟩
def isL (k : Nat) : Prop := k = 93 ∨ k = 97 ∨ k = 101 ∨ k = 105 ∨ k = 109
theorem L_o {w : Nat} (h : isL w) : shp w = .inl 11 := by rcases h with rfl | rfl | rfl | rfl | rfl <;> rfl
theorem L_l {w : Nat} (h : isL w) : w < 135 := by rcases h with rfl | rfl | rfl | rfl | rfl <;> decide
theorem L_r0 {w : Nat} (h : isL w) : rt w 0 = some (w + 1) ∧ isS (w + 1) := by rcases h with rfl | rfl | rfl | rfl | rfl <;> exact ⟨rfl, by simp [isS]⟩
theorem L_i1 {w : Nat} (h : isL w) : ivk w 1 = true := by rcases h with rfl | rfl | rfl | rfl | rfl <;> rfl
theorem L_i3 {w : Nat} (h : isL w) : ivk w 3 = true := by rcases h with rfl | rfl | rfl | rfl | rfl <;> rfl
theorem L_i4 {w : Nat} (h : isL w) : ivk w 4 = true := by rcases h with rfl | rfl | rfl | rfl | rfl <;> rfl
theorem L_of {k : Nat} (h : k < 5) : isL (93 + 4 * k) ∧ rt 77 k = some (93 + 4 * k) := by
  rcases (show k = 0 ∨ k = 1 ∨ k = 2 ∨ k = 3 ∨ k = 4 by omega) with rfl | rfl | rfl | rfl | rfl <;> exact ⟨by simp [isL], rfl⟩
