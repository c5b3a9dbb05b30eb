/-! the world while it is made: which references are set -/
section XM2
variable {κ : KX} {own : String} {b : ByteArray} {d : Nat} {n pc q : Nat} {L : List (Option Value)} {st : List Value} {h : Hp}
theorem ss_rows {N M : Nat} (hs : shp n = .inr (3, N)) (hi : ∀ j, j < N → shp (n + 1 + j) = .inr (0, M)) : ∀ i, i ≤ N → ss (n + 1 + i) = ss n + (N + i * M)
  | 0, _ => by rw [Nat.add_zero, ss_arr hs, Nat.zero_mul, Nat.add_zero]
  | i + 1, h => by
    rw [show n + 1 + (i + 1) = n + 1 + i + 1 by omega, ss_arr (hi i (by omega)), ss_rows hs hi i (by omega), Nat.succ_mul]
    omega
def mrow (h : Hp) (n N : Nat) : Hp := fun a b => if a = n ∧ b < N then .ref (n + 1 + b) else h a b
theorem multi_P {g : CX} {N M : Nat} {H H1 : Heap} (hs : shp n = .inr (3, N)) (hi : ∀ j, j < N → shp (n + 1 + j) = .inr (0, M)) (hn : n + 1 + N < 2000) (hz : H.size = cxb g + n) (hf : ∀ j, rv g (h n j) = none) (hfi : ∀ i, i < N → ∀ j, h (n + 1 + i) j = .int 0)
    (hP : va_P (cxD g) classes (wsL g n h) H) (o1 : ∀ a : Nat, a < cxb g + n → H1[a]? = H[a]?) (e1 : H1[cxb g + n]? = some (mzc (cxT g 3) N (cxb g + n) N)) (e2 : ∀ j, j < N → H1[cxb g + n + 1 + j]? = some (arrV (cxT g 0) M (fun _ => .int 0))) :
    va_P (cxD g) classes (wsL g (n + 1 + N) (mrow h n N)) H1 := by
  intro k x hx
  obtain ⟨hk, rfl⟩ := wsL_inv hx
  by_cases h1 : k < n
  · have := (hP k _ (wsL_at h1)).kept (H1 := H1) (o1 _ (by show cxb g + k < _; omega))
    rw [show mrow h n N k = h k by funext j; exact if_neg (by omega)]
    exact this
  · by_cases h2 : k = n
    · subst h2
      rw [ent_arr hs, arrE_q (by decide)]
      show H1[cxb g + k]? = some (arrV _ N (fun j => va_rf (rv g (mrow h k N k j))))
      rw [e1]
      unfold mzc
      congr 2
      funext j
      unfold mrow
      by_cases hj : j < N
      · rw [if_pos hj, if_pos ⟨rfl, hj⟩]
        show _ = Value.ref (adr g (k + 1 + j))
        rw [adr_lt (by omega), show cxb g + (k + 1 + j) = cxb g + k + 1 + j by omega]
      · rw [if_neg hj, if_neg (by omega), hf j]
        rfl
    · obtain ⟨j, rfl⟩ : ∃ j, k = n + 1 + j := ⟨k - n - 1, by omega⟩
      have hj : j < N := by omega
      rw [ent_arr (hi j hj), arrE_i (by decide)]
      show H1[cxb g + (n + 1 + j)]? = some (arrV _ M (fun i => .int (iv (mrow h n N (n + 1 + j) i))))
      rw [show cxb g + (n + 1 + j) = cxb g + n + 1 + j by omega, e2 j hj]
      congr 2
      funext i
      rw [show mrow h n N (n + 1 + j) i = h (n + 1 + j) i from if_neg (by omega), hfi j hj i]
      rfl
theorem cell_rows {a b c R N : Nat} (h0 : a ≤ b) (h1 : b + 1 + N ≤ c) (hR : c - a ≤ R) : b - a + (1 + N) ≤ R ∧ b - a + 1 + N = b + 1 + N - a ∧ a ≤ b + 1 + N := by omega
theorem room_rows {a b c z N R : Nat} (h0 : a ≤ b) (h : z = b + N) (h1 : z ≤ c) (hR : c - a ≤ R) : b - a + N ≤ R ∧ b - a + N = z - a := by omega
theorem x_multi {idx N M : Nat} (G : Gc κ own b d) (hd : dc b pc q (.multianewarray idx 2) 4) (hs : shp n = .inr (3, N)) (hi : ∀ j, j < N → shp (n + 1 + j) = .inr (0, M)) (hN : N < 4000) (hM : M < 4000) (hl : Cond.classLink own idx "[[I" ∈ WS) (hc : Cond.arrayClass .int ∈ WS) (hx : n + 1 + N ≤ kx κ) (hn : n + 1 + N < 2000)
    (hf : ∀ j, rv (kg κ) (h n j) = none) (hfi : ∀ i, i < N → ∀ j, h (n + 1 + i) j = .int 0) (kk : X κ (n + 1 + N) q L (.ref n :: st) (mrow h n N)) : X κ n pc L (.int (nI M) :: .int (nI N) :: st) h := by
  obtain ⟨hd, rfl⟩ := hd
  intro H locs ls hz hP hS hl0
  intro T hT Xs
  subst hT
  have hsz := X_size G Xs hz hP hS
  suffices key : W (kp κ) (cxl (kg κ)) (ke κ) (kR κ) (ks κ) (km κ) (ka κ) (kbel κ) (kme κ) (kc κ) T.heap locs (n - k0 κ) (ss n - ss (k0 κ)) (kQ κ) (F0 (km κ) pc ls (.int (nI M) :: .int (nI N) :: st.map (vV (kg κ)))) from key T rfl Xs
  have hr := room_rows (ss_le hz) (ss_rows hs hi N (Nat.le_refl _)) (ss_le hx) G.slots
  have hcl := cell_rows hz hx G.cells
  refine w_multi G.exec G.code G.owns (G.words _ hl) (over_moved (a := #[]) (a' := ka κ) (Vm.Alike.refl _) G.hA.2.2.2.1) (G.words _ hc) hd hN hM hcl.1 hr.1 hsz (fun cA cI H1 L1 f1 f2 z1 o1 e1 e2 hL1 => ?_)
  have hA : cA = cxT (kg κ) 3 := Option.some.inj (f1.symm.trans (G.hK.2 3 _ (tysL_at (kg κ) (by decide))).2)
  have hI : cI = cxT (kg κ) 0 := Option.some.inj (f2.symm.trans (G.hK.2 0 _ (tysL_at (kg κ) (by decide))).2)
  subst hA
  subst hI
  have hk := kk H1 (locs ++ L1) ls hcl.2.2 (multi_P hs hi hn hsz hf hfi hP (fun a ha => o1 a ha) e1 e2) ⟨Nat.le_trans hS.1 (by rw [z1, hsz]; omega), fun x h1 h2 => (o1 x (by rw [← hsz]; exact Nat.lt_of_lt_of_le h1 hS.1)).trans (hS.2.1 x h1 h2), fun q hq => by
    rcases List.mem_append.mp hq with h | h
    · exact hS.2.2 q h
    · rw [hL1 q h]
      exact Nat.le_add_right _ _⟩ hl0
  rw [ref_adr (by omega)] at hk
  exact W.cs hcl.2.1 (by rw [← hr.2]; omega) hk
end XM2
abbrev Bs : Type := Nat → Nat → Bool
def wd (D c : Bs) (σ : Sg) : Hp := fun k j => match rt k j with
  | some t => if (D k j || c k j) = true then .ref t else .null
  | none => if isK k j then (if σ k j = 0 then .null else .ref (σ k j).toNatClampNeg) else .int (σ k j)
def cF : Bs := fun _ _ => false
def updc (c : Bs) (k j : Nat) : Bs := fun a b => c a b || (a == k && b == j)
def rowc (c : Bs) (k : Nat) : Bs := fun a b => c a b || a == k
def mkc (k n n' : Nat) (c : Bs) : Bs := fun a b => c a b || (a == k || (decide (n ≤ a) && decide (a < n')))
def Fr (n : Nat) (D c : Bs) (σ : Sg) : Prop := ∀ a, n ≤ a → ∀ b, D a b = false ∧ c a b = false ∧ σ a b = 0
theorem Fr.succ {n n' : Nat} {D c : Bs} {σ : Sg} (h : Fr n D c σ) (hn : n ≤ n') : Fr n' D c σ := fun a ha => h a (Nat.le_trans hn ha)
theorem updc_far {c : Bs} {k j a b : Nat} (hk : a ≠ k) : updc c k j a b = c a b := by
  unfold updc
  rw [show (a == k) = false from beq_eq_false_iff_ne.mpr hk]
  simp
theorem rowc_far {c : Bs} {k a b : Nat} (hk : a ≠ k) : rowc c k a b = c a b := by
  unfold rowc
  rw [show (a == k) = false from beq_eq_false_iff_ne.mpr hk]
  simp
theorem mkc_far {c : Bs} {k n n' a b : Nat} (hk : k < n') (ha : n' ≤ a) : mkc k n n' c a b = c a b := by
  unfold mkc
  rw [show (a == k) = false from beq_eq_false_iff_ne.mpr (by omega), show decide (a < n') = false from decide_eq_false (by omega)]
  simp
theorem Fr.put {n k j : Nat} {D c : Bs} {σ : Sg} (h : Fr n D c σ) (hk : k < n) : Fr n D (updc c k j) σ := fun a ha b => ⟨(h a ha b).1, by rw [updc_far (by omega)]; exact (h a ha b).2.1, (h a ha b).2.2⟩
theorem Fr.row {n k : Nat} {D c : Bs} {σ : Sg} (h : Fr n D c σ) (hk : k < n) : Fr n D (rowc c k) σ := fun a ha b => ⟨(h a ha b).1, by rw [rowc_far (by omega)]; exact (h a ha b).2.1, (h a ha b).2.2⟩
theorem Fr.int {n k j : Nat} {x : Int32} {D c : Bs} {σ : Sg} (h : Fr n D c σ) (hk : k < n) : Fr n D c (updS σ k j x) := fun a ha b => ⟨(h a ha b).1, (h a ha b).2.1, by rw [updS_ne (by omega)]; exact (h a ha b).2.2⟩
def chk (c c' : Bs) : Bool := (List.range 135).all fun a => (List.range (rtL.getD a []).length).all fun b => (rt a b).isNone || (c a b == c' a b)
theorem rt_bd {a b t : Nat} (h : rt a b = some t) : a < 135 ∧ b < (rtL.getD a []).length := by
  unfold rt at h
  have hb : b < (rtL.getD a []).length := by
    rcases Nat.lt_or_ge b (rtL.getD a []).length with q | q
    · exact q
    · rw [List.getD_eq_getElem?_getD, List.getElem?_eq_none q] at h
      cases h
  refine ⟨?_, hb⟩
  rcases Nat.lt_or_ge a 135 with q | q
  · exact q
  · exfalso
    rw [List.getD_eq_getElem?_getD, List.getElem?_eq_none (show rtL.length ≤ a from Nat.le_trans (show rtL.length ≤ 135 by decide +kernel) q)] at hb
    exact absurd hb (Nat.not_lt_zero _)
theorem chk_sp {c c' : Bs} (h : chk c c' = true) {a b t : Nat} (ht : rt a b = some t) : c a b = c' a b := by
  obtain ⟨h1, h2⟩ := rt_bd ht
  have := List.all_eq_true.mp (List.all_eq_true.mp h a (List.mem_range.mpr h1)) b (List.mem_range.mpr h2)
  rw [ht] at this
  simpa using this
theorem wd_chk {D c c' : Bs} {σ : Sg} (h : chk c c' = true) : wd D c σ = wd D c' σ := by
  funext a b
  unfold wd
  cases ht : rt a b with
  | none => rfl
  | some t =>
    show (if (D a b || c a b) = true then Value.ref t else .null) = if (D a b || c' a b) = true then Value.ref t else .null
    rw [chk_sp h ht]
theorem wd_or {D c : Bs} {σ : Sg} : wd D c σ = wd (fun a b => D a b || c a b) cF σ := by
  funext a b
  unfold wd cF
  simp
theorem wd_mk {D c : Bs} {k n n' : Nat} {σ : Sg} : wd (fun a b => D a b || c a b) (mkc k n n' cF) σ = wd D (mkc k n n' c) σ := by
  funext a b
  unfold wd mkc cF
  simp [Bool.or_assoc]
theorem wd_full {D c : Bs} {σ : Sg} (h : ∀ a b t, rt a b = some t → (D a b || c a b) = true) : wd D c σ = hv σ := by
  funext a b
  unfold wd hv
  cases ht : rt a b with
  | none => rfl
  | some t =>
    show (if (D a b || c a b) = true then Value.ref t else .null) = .ref t
    rw [if_pos (h a b t ht)]
theorem wd_put {D c : Bs} {σ : Sg} {k j t : Nat} (ht : rt k j = some t) : updh (wd D c σ) k j (.ref t) = wd D (updc c k j) σ := by
  funext a b
  unfold updh
  by_cases h : a = k ∧ b = j
  · obtain ⟨rfl, rfl⟩ := h
    rw [if_pos ⟨rfl, rfl⟩]
    unfold wd updc
    rw [ht]
    simp
  · rw [if_neg h]
    have hb : (a == k && b == j) = false := by
      cases hq : (a == k && b == j) with
      | false => rfl
      | true =>
        rw [Bool.and_eq_true] at hq
        exact absurd ⟨eq_of_beq hq.1, eq_of_beq hq.2⟩ h
    unfold wd updc
    rw [hb, Bool.or_false]
theorem wd_int {D c : Bs} {σ : Sg} {k j : Nat} {x : Int32} (h : ivk k j = true) : updh (wd D c σ) k j (.int x) = wd D c (updS σ k j x) := by
  obtain ⟨h1, h2⟩ := ivk_sp h
  funext a b
  by_cases hab : a = k ∧ b = j
  · obtain ⟨rfl, rfl⟩ := hab
    simp [updh, wd, h1, h2, updS]
  · simp [updh, hab, wd, updS]
theorem wd_iv {D c : Bs} {σ : Sg} {k j : Nat} (h : ivk k j = true) : wd D c σ k j = .int (σ k j) := by
  obtain ⟨h1, h2⟩ := ivk_sp h
  simp [wd, h1, h2]
theorem wd_ref {D c : Bs} {σ : Sg} {k j t : Nat} (h : rt k j = some t) (hc : c k j = true) : wd D c σ k j = .ref t := by
  simp [wd, h, hc]
theorem wd_rv {g : CX} {D c : Bs} {σ : Sg} {n : Nat} (hF : Fr n D c σ) (j : Nat) : rv g (wd D c σ n j) = none := by
  obtain ⟨h1, h2, h3⟩ := hF n (Nat.le_refl _) j
  unfold wd
  rw [h1, h2, h3]
  cases rt n j with
  | some t => rfl
  | none =>
    show rv g (if isK n j = true then (if (0 : Int32) = 0 then .null else _) else .int 0) = none
    cases isK n j <;> rfl
theorem wd_row {D c : Bs} {σ : Sg} {n N : Nat} (hr : ∀ j, rt n j = if j < N then some (n + 1 + j) else none) : mrow (wd D c σ) n N = wd D (rowc c n) σ := by
  funext a b
  unfold mrow
  by_cases h : a = n ∧ b < N
  · rw [if_pos h]
    obtain ⟨rfl, hb⟩ := h
    unfold wd rowc
    rw [hr b, if_pos hb]
    simp
  · rw [if_neg h]
    unfold wd rowc
    by_cases ha : a = n
    · subst ha
      rw [hr b, if_neg (fun q => h ⟨rfl, q⟩)]
    · rw [show (a == n) = false from beq_eq_false_iff_ne.mpr ha, Bool.or_false]
/-- a new object's slots are what its cell's row says -/
def nwo (n ci : Nat) : Bool := (List.range (gcl ci).2.2).all fun j => match clty ci j with
  | .int => (rt n j).isNone && !isK n j
  | .boolean => (rt n j).isNone && !isK n j
  | .object _ => (rt n j).isSome || isK n j
  | .array _ => (rt n j).isSome || isK n j
  | _ => false
theorem nwo_sp {g : CX} {D c : Bs} {σ : Sg} {n ci : Nat} (h : nwo n ci = true) (hF : Fr n D c σ) (j : Nat) (hj : j < (gcl ci).2.2) : vV g (wd D c σ n j) = defaultValue (clty ci j) := by
  obtain ⟨h1, h2, h3⟩ := hF n (Nat.le_refl _) j
  have hq := List.all_eq_true.mp h j (List.mem_range.mpr hj)
  unfold wd
  rw [h1, h2, h3]
  cases hc : clty ci j <;> rw [hc] at hq <;> cases ht : rt n j <;> cases hk : isK n j <;> rw [ht, hk] at hq <;> first | rfl | cases hq
/-- a constructor: from the world of n cells to that of n' -/
def PostF (n' : Nat) (D c : Bs) (σ : Sg) : Option Value → Hp → Prop := fun r h => r = none ∧ h = wd D c σ ∧ Fr n' D c σ
def RunF (g : CX) (d : Nat) (μ : MD) (av : List Value) (k n : Nat) (σ : Sg) (n' : Nat) (σ' : Sg) : Prop := ∀ D : Bs, Fr n D cF σ → Runs g d μ av n (wd D cF σ) n' (PostF n' D (mkc k n n' cF) σ')
section XF
variable {κ : KX} {own : String} {b : ByteArray} {d : Nat} {n pc q : Nat} {L : List (Option Value)} {st : List Value} {D c : Bs} {σ : Sg}
theorem f_new {idx ci : Nat} (hF : Fr n D c σ) (G : Gc κ own b d) (hd : dc b pc q (.new idx) 3) (hci : ci < 13) (hs : shp n = .inl ci) (hl : Cond.classLink own idx (gcl ci).1 ∈ WS) (hi : Cond.instantiable (gcl ci).1 (gcl ci).2.2 ∈ WS) (hin : Cond.initialized (gcl ci).1 ∈ WS) (hx : n + 1 ≤ kx κ) (hn : n < 2000) (hw : nwo n ci = true)
    (kk : (∀ j, σ n j = 0) → Fr (n + 1) D c σ → X κ (n + 1) q L (.ref n :: st) (wd D c σ)) : X κ n pc L st (wd D c σ) :=
  x_new G hd hci hs hl hi hin hx hn (nwo_sp hw hF) (kk (fun j => (hF n (Nat.le_refl _) j).2.2) (hF.succ (Nat.le_succ _)))
theorem f_newa {aty : ArrayType} {ty len : Nat} {i : Int32} (hF : Fr n D c σ) (G : Gc κ own b d) (hd : dc b pc q (.newarray aty) 2) (hty : newarray.typeOf aty = atys ty ∧ ty ≤ 1) (hs : shp n = .inr (ty, len)) (hc : Cond.arrayClass (atys ty) ∈ WS) (hi : i = nI len) (hlen : 0 < len ∧ len < 4000) (hx : n + 1 ≤ kx κ)
    (kk : Fr (n + 1) D c σ → X κ (n + 1) q L (.ref n :: st) (wd D c σ)) : X κ n pc L (.int i :: st) (wd D c σ) :=
  have hn := shp_lt hs hlen.1
  x_newa G hd hty hs hc hi hlen.2 hx (by omega) (fun j => by rw [wd_iv (arr_ivk hs (by omega) hn), (hF n (Nat.le_refl _) j).2.2]) (kk (hF.succ (Nat.le_succ _)))
theorem f_anew {idx ty len : Nat} {C : String} {i : Int32} (hF : Fr n D c σ) (G : Gc κ own b d) (hd : dc b pc q (.anewarray idx) 3) (hty : atys ty = .object C ∧ 1 < ty ∧ ty < 6) (hs : shp n = .inr (ty, len)) (hl : Cond.classLink own idx C ∈ WS) (hao : va_AO C (ks κ)) (hi : i = nI len) (hlen : len < 4000) (hx : n + 1 ≤ kx κ) (hn : n < 2000)
    (kk : Fr (n + 1) D c σ → X κ (n + 1) q L (.ref n :: st) (wd D c σ)) : X κ n pc L (.int i :: st) (wd D c σ) :=
  x_anew G hd hty hs hl hao hi hlen hx hn (wd_rv hF) (kk (hF.succ (Nat.le_succ _)))
theorem f_multi {idx N M : Nat} (hF : Fr n D c σ) (G : Gc κ own b d) (hd : dc b pc q (.multianewarray idx 2) 4) (hs : shp n = .inr (3, N)) (hi : ∀ j, j < N → shp (n + 1 + j) = .inr (0, M)) (hN : N < 4000) (hM : 0 < M ∧ M < 4000) (hl : Cond.classLink own idx "[[I" ∈ WS) (hc : Cond.arrayClass .int ∈ WS) (hx : n + 1 + N ≤ kx κ) (hn : n + 1 + N < 2000)
    (hr : rtL.getD n [] = (List.range N).map (fun j => some (n + 1 + j))) (kk : Fr (n + 1 + N) D (rowc c n) σ → X κ (n + 1 + N) q L (.ref n :: st) (wd D (rowc c n) σ)) : X κ n pc L (.int (nI M) :: .int (nI N) :: st) (wd D c σ) := by
  have hF2 : Fr (n + 1 + N) D (rowc c n) σ := (hF.succ (by omega : n ≤ n + 1 + N)).row (by omega)
  refine x_multi G hd hs hi hN hM.2 hl hc hx hn (wd_rv hF) (fun i hi2 j => ?_) ?_
  · have hlt := shp_lt (hi i hi2) hM.1
    rw [wd_iv (arr_ivk (hi i hi2) (by decide) hlt), (hF _ (by omega) j).2.2]
  · rw [wd_row (fun j => ?_)]
    · exact kk hF2
    · unfold rt
      rw [hr]
      by_cases hj : j < N
      · rw [if_pos hj, List.getD_eq_getElem?_getD, rngmap_at hj]
        rfl
      · rw [if_neg hj, List.getD_eq_getElem?_getD, List.getElem?_eq_none (by simp; omega)]
        rfl
theorem f_putr {idx ci j k t : Nat} (hF : Fr n D c σ) (G : Gc κ own b d) (hd : dc b pc q (.putfield idx) 3) (fl : FL own idx ci j) (hs : shp k = .inl ci) (hk : k < n ∧ n ≤ 2000) (hrt : rt k j = some t) (hfin : ((gcl ci).2.1 j).2.2.2 = false ∨ (((gcl ci).2.1 j).2.2.2 = true ∧ (kme κ).name = "<init>" ∧ (gcl ci).1 = own)) (hty : (∃ C, clty ci j = .object C) ∨ ∃ t, clty ci j = .array t)
    (kk : Fr n D (updc c k j) σ → X κ n q L st (wd D (updc c k j) σ)) : X κ n pc L (.ref t :: .ref k :: st) (wd D c σ) := by
  have h := kk (hF.put hk.1)
  rw [← wd_put hrt] at h
  have hn : narrow (clty ci j) (vV (kg κ) (.ref t)) = vV (kg κ) (.ref t) := by rcases hty with ⟨C, e⟩ | ⟨C, e⟩ <;> rw [e] <;> rfl
  have hf : fits (clty ci j) (vV (kg κ) (.ref t)) = true := by rcases hty with ⟨C, e⟩ | ⟨C, e⟩ <;> rw [e] <;> rfl
  rcases hfin with q1 | ⟨q1, q2, q3⟩
  · exact x_put G hd fl hs hk q1 hn hf h
  · exact x_putF G hd fl hs hk q1 q2 q3 hn hf h
theorem f_puti {idx ci j k : Nat} {x : Int32} (hF : Fr n D c σ) (G : Gc κ own b d) (hd : dc b pc q (.putfield idx) 3) (fl : FL own idx ci j) (hs : shp k = .inl ci) (hk : k < n ∧ n ≤ 2000) (hi : ivk k j = true) (hfin : ((gcl ci).2.1 j).2.2.2 = false) (hn : narrow (clty ci j) (.int x) = .int x) (hf : fits (clty ci j) (.int x) = true)
    (kk : Fr n D c (updS σ k j x) → X κ n q L st (wd D c (updS σ k j x))) : X κ n pc L (.int x :: .ref k :: st) (wd D c σ) := by
  have h := kk (hF.int hk.1)
  rw [← wd_int hi] at h
  exact x_put G hd fl hs hk hfin hn hf h
theorem updh_same {h : Hp} {k j : Nat} {v : Value} (e : h k j = v) : updh h k j v = h := by
  funext a b
  unfold updh
  by_cases q : a = k ∧ b = j
  · rw [if_pos q, q.1, q.2, e]
  · rw [if_neg q]
theorem f_put0 {idx ci j k : Nat} (G : Gc κ own b d) (hd : dc b pc q (.putfield idx) 3) (fl : FL own idx ci j) (hs : shp k = .inl ci) (hk : k < n ∧ n ≤ 2000) (hi : ivk k j = true) (hfin : ((gcl ci).2.1 j).2.2.2 = false) (hn : narrow (clty ci j) (.int 0) = .int 0) (hf : fits (clty ci j) (.int 0) = true) (hz : σ k j = 0)
    (kk : X κ n q L st (wd D c σ)) : X κ n pc L (.int 0 :: .ref k :: st) (wd D c σ) :=
  x_put G hd fl hs hk hfin hn hf (by rw [updh_same (by rw [wd_iv hi, hz])]; exact kk)
theorem f_putn {idx ci j k : Nat} {C : String} (G : Gc κ own b d) (hd : dc b pc q (.putfield idx) 3) (fl : FL own idx ci j) (hs : shp k = .inl ci) (hk : k < n ∧ n ≤ 2000) (hi : rt k j = none ∧ isK k j = true) (hfin : ((gcl ci).2.1 j).2.2.2 = false) (hty : clty ci j = .object C) (hz : σ k j = 0)
    (kk : X κ n q L st (wd D c σ)) : X κ n pc L (.null :: .ref k :: st) (wd D c σ) :=
  x_put G hd fl hs hk hfin (by rw [hty]; rfl) (by rw [hty]; rfl) (by rw [updh_same (by unfold wd; rw [hi.1, hi.2, hz]; rfl)]; exact kk)
theorem f_getr {idx ci j k t : Nat} (G : Gc κ own b d) (hd : dc b pc q (.getfield idx) 3) (fl : FL own idx ci j) (hs : shp k = .inl ci) (hk : k < n ∧ n ≤ 2000) (hr : rt k j = some t) (hc : c k j = true) (kk : X κ n q L (.ref t :: st) (wd D c σ)) : X κ n pc L (.ref k :: st) (wd D c σ) :=
  x_get G hd fl hs hk (by rw [wd_ref hr hc]; exact kk)
theorem f_aald {k ty len t : Nat} {i : Int32} (j : Nat) (G : Gc κ own b d) (hd : dc b pc q .aaload 1) (hs : shp k = .inr (ty, len)) (hty : 1 < ty ∧ ty < 6) (hk : k < n ∧ n ≤ 2000) (hi : i = nI j) (hj : j < len ∧ len < 2 ^ 31) (hr : rt k j = some t) (hc : c k j = true) (kk : X κ n q L (.ref t :: st) (wd D c σ)) : X κ n pc L (.int i :: .ref k :: st) (wd D c σ) :=
  x_aald G hd hs hty hk j hi hj (wd_ref hr hc) kk
theorem f_iast {k len : Nat} {i x : Int32} (j : Nat) (hF : Fr n D c σ) (G : Gc κ own b d) (hd : dc b pc q .iastore 1) (hs : shp k = .inr (0, len)) (hk : k < n ∧ n ≤ 2000) (hi : i = nI j) (hj : j < len ∧ len < 2 ^ 31) (kk : Fr n D c (updS σ k j x) → X κ n q L st (wd D c (updS σ k j x))) : X κ n pc L (.int x :: .int i :: .ref k :: st) (wd D c σ) :=
  x_iast G hd hs hk j hi hj (by rw [wd_int (arr_ivk hs (by decide) (shp_lt hs (by omega)))]; exact kk (hF.int hk.1))
theorem f_aast {k ty len r ci : Nat} {E : String} {i : Int32} (j : Nat) (hF : Fr n D c σ) (G : Gc κ own b d) (hd : dc b pc q .aastore 1) (hs : shp k = .inr (ty, len)) (hty : atys ty = .object E ∧ 1 < ty ∧ ty < 6) (hk : k < n ∧ n ≤ 2000) (hr : r < n ∧ shp r = .inl ci ∧ ci < 13) (hca : (gcl ci).1 = E ∨ va_Nw (.castable (gcl ci).1 E) (ks κ)) (hi : i = nI j) (hj : j < len ∧ len < 2 ^ 31) (hrt : rt k j = some r)
    (kk : Fr n D (updc c k j) σ → X κ n q L st (wd D (updc c k j) σ)) : X κ n pc L (.ref r :: .int i :: .ref k :: st) (wd D c σ) :=
  x_aast G hd hs hty hk hr hca j hi hj (by rw [wd_put hrt]; exact kk (hF.put hk.1))
theorem f_callI {idx na k n' d' : Nat} {μ : MD} {As : List Value} {σ' : Sg} (hM : RunF (kg κ) d' μ (.ref k :: As) k n σ n' σ') (hF : Fr n D c σ) (G : Gc κ own b d) (hd : dc b pc q (.invokespecial idx) 3) (lk : LkI own idx μ na) (hk : k < n ∧ n ≤ 2000) (hd' : d' + 1 ≤ d) (hna : As.length = na) (hw : (st.map fun v => v.category).sum ≤ 8) (hx : n ≤ n' ∧ n' ≤ kx κ)
    (kk : Fr n' D (mkc k n n' c) σ' → X κ n' q L st (wd D (mkc k n n' c) σ')) : X κ n pc L (As.reverse ++ .ref k :: st) (wd D c σ) := by
  have hr := hM (fun a b => D a b || c a b) (fun a ha b => ⟨by show (D a b || c a b) = false; rw [(hF a ha b).1, (hF a ha b).2.1]; rfl, rfl, (hF a ha b).2.2⟩)
  rw [← wd_or] at hr
  refine x_callI hr G hd lk hk hd' hna hw hx (fun r h' ⟨e1, e2, e3⟩ => ?_)
  subst e1
  subst e2
  rw [wd_mk]
  refine kk (fun a ha b => ?_)
  have hkn : k < n' := Nat.lt_of_lt_of_le hk.1 hx.1
  have h0 := hF a (Nat.le_trans hx.1 ha) b
  exact ⟨h0.1, by rw [mkc_far hkn ha]; exact h0.2.1, (e3 a ha b).2.2⟩
theorem f_vret {μ : MD} {k n0 : Nat} (hF : Fr n D c σ) (E : Ge κ μ (PostF n D (mkc k n0 n cF) σ)) (G : Gc κ own b d) (hd : dc b pc q .return_ 1) (hx : n = kx κ) (hr : μ.2.2.2 = none) (hk : k < n) (hc : chk c (mkc k n0 n cF) = true) : X κ n pc L [] (wd D c σ) :=
  x_vret G E hd hx hr ⟨rfl, wd_chk hc, fun a ha b => ⟨(hF a ha b).1, mkc_far hk ha, (hF a ha b).2.2⟩⟩
theorem RunF.of {g : CX} {d : Nat} {μ : MD} {av : List Value} {k n n' : Nat} {σ σ' : Sg} (m : Nat) (hy : plainName μ.1.cls = true) (hlen : (lin av).length + m = μ.2.2.1) (hn : n ≤ n')
    (body : ∀ (κ : KX) (D : Bs), kg κ = g → kx κ = n' → kn κ = μ.2.2.1 → (kme κ).name = μ.1.name → Fr n D cF σ → Gc κ μ.1.cls μ.2.1 d → Ge κ μ (PostF n' D (mkc k n n' cF) σ') → X κ n 0 (lin av ++ List.replicate m none) [] (wd D cF σ)) : RunF g d μ av k n σ n' σ' :=
  fun D hF => Runs.of m hy hlen hn (fun κ h1 _ h3 h4 G E => body κ D h1 h3 h4 E.2.2.2 hF G E)
end XF
