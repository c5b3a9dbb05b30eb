/-! Math.max, Math.min, Math.abs, System.arraycopy, Integer.bitCount -/
theorem kj_math : Cond.initialized "java/lang/Math" ∈ WS := ws_in 79 (by decide +kernel) (by decide +kernel)
theorem kj_max_s : Cond.static Lib.Math.max.name ∈ WS := ws_in 447 (by decide +kernel) (by decide +kernel)
theorem kj_max_c : Cond.code Lib.Math.max.name Lib.Math.max.code 2 (some .int) ∈ WS := ws_in 448 (by decide +kernel) (by decide +kernel)
theorem lm_Wo_99 : Cond.methodLink "NoonFields$World" 99 Lib.Math.max.name ∈ WS := ws_in 446 (by decide +kernel) (by decide +kernel)
theorem lm_Ch_17 : Cond.methodLink "NoonFields$Child" 17 Lib.Math.max.name ∈ WS := ws_in 459 (by decide +kernel) (by decide +kernel)
theorem lm_N_291 : Cond.methodLink "NoonFields" 291 Lib.Math.max.name ∈ WS := ws_in 946 (by decide +kernel) (by decide +kernel)
theorem kj_min_s : Cond.static Lib.Math.min.name ∈ WS := ws_in 444 (by decide +kernel) (by decide +kernel)
theorem kj_min_c : Cond.code Lib.Math.min.name Lib.Math.min.code 2 (some .int) ∈ WS := ws_in 445 (by decide +kernel) (by decide +kernel)
theorem lm_Wo_96 : Cond.methodLink "NoonFields$World" 96 Lib.Math.min.name ∈ WS := ws_in 443 (by decide +kernel) (by decide +kernel)
theorem lm_N_156 : Cond.methodLink "NoonFields" 156 Lib.Math.min.name ∈ WS := ws_in 568 (by decide +kernel) (by decide +kernel)
theorem kj_abs_s : Cond.static Lib.Math.abs.name ∈ WS := ws_in 434 (by decide +kernel) (by decide +kernel)
theorem kj_abs_c : Cond.code Lib.Math.abs.name Lib.Math.abs.code 1 (some .int) ∈ WS := ws_in 435 (by decide +kernel) (by decide +kernel)
theorem lm_Wo_81 : Cond.methodLink "NoonFields$World" 81 Lib.Math.abs.name ∈ WS := ws_in 433 (by decide +kernel) (by decide +kernel)
theorem lm_Sh_44 : Cond.methodLink "NoonFields$Sheet" 44 Lib.Math.abs.name ∈ WS := ws_in 715 (by decide +kernel) (by decide +kernel)
theorem kj_cpi : Cond.initialized "java/lang/System" ∈ WS := ws_in 80 (by decide +kernel) (by decide +kernel)
theorem kj_cps : Cond.static arraycopyName ∈ WS := ws_in 628 (by decide +kernel) (by decide +kernel)
theorem kj_cpn : Cond.native arraycopyName ∈ WS := ws_in 629 (by decide +kernel) (by decide +kernel)
theorem lm_Wo_59 : Cond.methodLink "NoonFields$World" 59 arraycopyName ∈ WS := ws_in 627 (by decide +kernel) (by decide +kernel)
theorem lm_Lw_34 : Cond.methodLink "NoonFields$Laws" 34 arraycopyName ∈ WS := ws_in 909 (by decide +kernel) (by decide +kernel)
theorem lm_Sh_31 : Cond.methodLink "NoonFields$Sheet" 31 arraycopyName ∈ WS := ws_in 963 (by decide +kernel) (by decide +kernel)
section XJ
variable {κ : KX} {own : String} {b : ByteArray} {d : Nat}
variable {n pc q : Nat} {L : List (Option Value)} {st : List Value} {h : Hp}
theorem rst (κ : KX) {st : List Value} (hw : (st.map fun v => v.category).sum ≤ 8) : ((st.map (vV (kg κ))).map fun v => v.category).sum ≤ 8 := by rw [cats]; exact hw
theorem kcs (G : Gc κ own b d) (hz : k0 κ ≤ n) (hx : n ≤ kx κ) : n - k0 κ ≤ (kR κ).cells ∧ ss n - ss (k0 κ) ≤ (kR κ).slots := by
  have g1 := G.cells
  have g2 := G.slots
  have a1 := ss_le hz
  have a2 := ss_le hx
  omega
theorem x_max {idx : Nat} {x y : Int32} (lk : Cond.methodLink own idx Lib.Math.max.name ∈ WS) (G : Gc κ own b d) (hd : dc b pc q (.invokestatic idx) 3) (h1 : 1 ≤ d) (hw : (st.map fun v => v.category).sum ≤ 8) (hx : n ≤ kx κ) (kk : X κ n q L (.int (if x < y then y else x) :: st) h) : X κ n pc L (.int y :: .int x :: st) h := by
  obtain ⟨hd, rfl⟩ := hd
  intro H locs ls hz hP hS hl
  have f1 := G.frames
  have f2 := G.locals
  have hw' := rst κ hw
  exact va_mmax G.exec G.code (G.maxL.trans hl.1.symm) G.owns (G.words _ lk) (G.words _ kj_max_s) (G.words _ kj_math) (G.words _ kj_max_c) (by omega) (by omega) (kcs G hz hx).1 (kcs G hz hx).2 hd (kk H locs ls hz hP hS hl)
theorem x_min {idx : Nat} {x y : Int32} (lk : Cond.methodLink own idx Lib.Math.min.name ∈ WS) (G : Gc κ own b d) (hd : dc b pc q (.invokestatic idx) 3) (h1 : 1 ≤ d) (hw : (st.map fun v => v.category).sum ≤ 8) (hx : n ≤ kx κ) (kk : X κ n q L (.int (if y < x then y else x) :: st) h) : X κ n pc L (.int y :: .int x :: st) h := by
  obtain ⟨hd, rfl⟩ := hd
  intro H locs ls hz hP hS hl
  have f1 := G.frames
  have f2 := G.locals
  have hw' := rst κ hw
  exact va_mmin G.exec G.code (G.maxL.trans hl.1.symm) G.owns (G.words _ lk) (G.words _ kj_min_s) (G.words _ kj_math) (G.words _ kj_min_c) (by omega) (by omega) (kcs G hz hx).1 (kcs G hz hx).2 hd (kk H locs ls hz hP hS hl)
theorem x_abs {idx : Nat} {x : Int32} (lk : Cond.methodLink own idx Lib.Math.abs.name ∈ WS) (G : Gc κ own b d) (hd : dc b pc q (.invokestatic idx) 3) (h1 : 1 ≤ d) (hw : (st.map fun v => v.category).sum ≤ 8) (hx : n ≤ kx κ) (kk : X κ n q L (.int (if 0 ≤ x then x else 0 - x) :: st) h) : X κ n pc L (.int x :: st) h := by
  obtain ⟨hd, rfl⟩ := hd
  intro H locs ls hz hP hS hl
  have f1 := G.frames
  have f2 := G.locals
  have hw' := rst κ hw
  exact va_mabs G.exec G.code (G.maxL.trans hl.1.symm) G.owns (G.words _ lk) (G.words _ kj_abs_s) (G.words _ kj_math) (G.words _ kj_abs_c) (by omega) (by omega) (kcs G hz hx).1 (kcs G hz hx).2 hd (kk H locs ls hz hP hS hl)
/-- row k of the world becomes f -/
def updR (σ : Sg) (k : Nat) (f : Nat → Int32) : Sg := fun a => if a = k then f else σ a
theorem updR_at {σ : Sg} {k : Nat} {f : Nat → Int32} : updR σ k f k = f := if_pos rfl
theorem updR_nk {σ : Sg} {k a : Nat} {f : Nat → Int32} (h : a ≠ k) : updR σ k f a = σ a := if_neg h
theorem updS_R {σ : Sg} {k j : Nat} {x : Int32} : updS σ k j x = updR σ k (upd (σ k) j x) := by
  funext a b
  by_cases ha : a = k
  · subst ha
    simp [updS, updR, upd]
  · simp [updS, updR, ha]
theorem hv_row {σ : Sg} {k j : Nat} (h : ∀ i, ivk k i = true) : iv (hv σ k j) = σ k j := by rw [hv_int (h j)]; rfl
theorem m_cpy {ty : Nat} {σ : Sg} {idx a c n0 n1 : Nat} {sp dp m : Int32} (s' d' m' : Nat) (lk : Cond.methodLink own idx arraycopyName ∈ WS) (G : Gc κ own b d) (hd : dc b pc q (.invokestatic idx) 3) (hty : ty < 2) (ha : shp a = .inr (ty, n0)) (hc : shp c = .inr (ty, n1)) (hak : a < 135) (hck : c < 135) (e1 : sp = nI s') (e2 : dp = nI d') (e3 : m = nI m') (l1 : s' + m' ≤ n0 ∧ n0 < 2 ^ 30) (l2 : d' + m' ≤ n1 ∧ n1 < 2 ^ 30)
    (hfit : ty = 1 → ∀ i, i < m' → σ a (s' + i) = 0 ∨ σ a (s' + i) = 1) (h1 : 1 ≤ d) (hw : (st.map fun v => v.category).sum ≤ 8)
    (kk : X κ NC q L st (hv (updR σ c (va_cpy (σ a) (σ c) s' d' m')))) : X κ NC pc L (.int m :: .int dp :: .ref c :: .int sp :: .ref a :: st) (hv σ) := by
  obtain ⟨hd, rfl⟩ := hd
  intro H locs ls hz hP hS hl
  have f1 := G.frames
  have f2 := G.locals
  have hw' := rst κ hw
  have hata := wsL_at (g := kg κ) (h := hv σ) (n := NC) hak
  have hatc := wsL_at (g := kg κ) (h := hv σ) (n := NC) hck
  rw [ent_arr ha, arrE_i (by omega)] at hata
  rw [ent_arr hc, arrE_i (by omega)] at hatc
  have hva : ∀ i, ivk a i = true := fun i => arr_ivk ha hty hak
  have hvc : ∀ i, ivk c i = true := fun i => arr_ivk hc hty hck
  simp only [hv_row hva] at hata
  simp only [hv_row hvc] at hatc
  have hw2 : nativeFrameWords "java/lang/System" "arraycopy" 5 + 11 + 8 ≤ 64 := by decide +kernel
  rw [show (Value.int m :: Value.int dp :: Value.ref c :: Value.int sp :: Value.ref a :: st).map (vV (kg κ)) = .int m :: .int dp :: .ref (cxb (kg κ) + c) :: .int sp :: .ref (cxb (kg κ) + a) :: st.map (vV (kg κ)) by
    rw [List.map_cons, List.map_cons, ref_adr (by omega), List.map_cons, ref_adr (by omega)]; rfl]
  refine va_copyi G.exec G.code (G.maxL.trans hl.1.symm) G.owns (G.words _ lk) (G.words _ kj_cpn) (G.words _ kj_cps) (G.words _ kj_cpi) G.hK hP (wsL_D _ _ _) hS a c ty ty hata hatc (tysL_at _ (by omega)) (tysL_at _ (by omega)) (by rcases (show ty = 0 ∨ ty = 1 by omega) with rfl | rfl <;> rfl)
    (by rw [e1]; exact nI_pos (by omega)) (by rw [e2]; exact nI_pos (by omega)) (by rw [e3]; exact nI_pos (by omega)) (by rw [e1, e3, nI_clamp (by omega), nI_clamp (by omega)]; exact l1.1) (by rw [e2, e3, nI_clamp (by omega), nI_clamp (by omega)]; exact l2.1)
    (fun i hi => ?_) (by omega) (by omega) hd (fun H1 locs1 hP1 _ hS1 => ?_)
  · rw [e3, nI_clamp (by omega)] at hi
    rw [e1, nI_clamp (by omega)]
    rcases (show ty = 0 ∨ ty = 1 by omega) with rfl | rfl
    · rfl
    · rcases hfit rfl i hi with q | q <;> rw [q] <;> first | exact (show fits .boolean (.int 0) = true by decide +kernel) | exact (show fits .boolean (.int 1) = true by decide +kernel)
  · rw [e1, e2, e3, nI_clamp (by omega), nI_clamp (by omega), nI_clamp (by omega), wsL_set (h' := hv (updR σ c (va_cpy (σ a) (σ c) s' d' m'))) hck ?_ ?_] at hP1
    · exact kk H1 locs1 ls hz hP1 hS1 hl
    · rw [ent_arr hc, arrE_i (by omega)]
      simp only [hv_row hvc, updR_at]
    · intro j hj
      funext i
      simp [hv, updR_nk hj]
end XJ
