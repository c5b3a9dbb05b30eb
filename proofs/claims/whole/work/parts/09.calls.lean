/-! calls of overridden methods on the kinds, and of the superclass's method -/
def LkU (own : String) (idx : Nat) (C owner : String) (x : MethodName) (μ : MD) (na : Nat) : Prop :=
  Cond.code μ.1 μ.2.1 μ.2.2.1 μ.2.2.2 ∈ WS ∧ Cond.initialized μ.1.cls ∈ WS ∧ (owner ≠ "java/lang/invoke/MethodHandle" ∧ owner ≠ "java/lang/invoke/VarHandle") ∧ (parseMethodDescriptor x.desc).map (fun d => d.parameters.length) = some na ∧ Cond.methodLink own idx x ∈ WS ∧ μ.2.2.1 ≤ 40 ∧
  Cond.sameMethod x.cls owner x.name x.desc ∈ WS ∧ Cond.instanceMethod ⟨owner, x.name, x.desc⟩ ∈ WS ∧ (∃ b m r, Cond.code ⟨owner, x.name, x.desc⟩ b m r ∈ WS) ∧ Cond.selects C x μ.1 ∈ WS ∧ Cond.instanceMethod μ.1 ∈ WS
def LkSU (own : String) (idx : Nat) (μ : MD) (na : Nat) : Prop := LkB own idx μ na ∧ μ.1.name ≠ "<init>" ∧ Cond.instanceMethod μ.1 ∈ WS ∧ Cond.sameMethod μ.1.cls μ.1.cls μ.1.name μ.1.desc ∈ WS ∧ Cond.superclass own μ.1.cls ∈ WS
/-- the superclass is sup; the method is declared one class further up -/
def LkSI (own : String) (idx : Nat) (sup : String) (μ : MD) (na : Nat) : Prop :=
  Cond.code μ.1 μ.2.1 μ.2.2.1 μ.2.2.2 ∈ WS ∧ Cond.initialized μ.1.cls ∈ WS ∧ (parseMethodDescriptor μ.1.desc).map (fun d => d.parameters.length) = some na ∧ Cond.methodLink own idx ⟨sup, μ.1.name, μ.1.desc⟩ ∈ WS ∧ μ.2.2.1 ≤ 40 ∧
  μ.1.name ≠ "<init>" ∧ Cond.instanceMethod μ.1 ∈ WS ∧ Cond.sameMethod sup μ.1.cls μ.1.name μ.1.desc ∈ WS ∧ Cond.superclass own sup ∈ WS ∧ Cond.superclass sup μ.1.cls ∈ WS
section XU
variable {κ : KX} {own : String} {b : ByteArray} {d : Nat}
variable {n pc q : Nat} {L : List (Option Value)} {st : List Value} {h : Hp}
theorem x_callU {idx na k ci n' d' : Nat} {C owner : String} {x : MethodName} {μ : MD} {As : List Value} {Post : Option Value → Hp → Prop} (hM : Runs (kg κ) d' μ (.ref k :: As) n h n' Post) (G : Gc κ own b d) (hd : dc b pc q (.invokevirtual idx) 3) (lk : LkU own idx C owner x μ na) (hs : shp k = .inl ci) (hcn : ci < 13 ∧ (gcl ci).1 = C) (hk : k < n ∧ n ≤ 2000) (hd' : d' + 1 ≤ d) (hna : As.length = na) (hw : (st.map fun v => v.category).sum ≤ 8) (hx : n ≤ n' ∧ n' ≤ kx κ) (kk : ∀ r h', Post r h' → X κ n' q L (r.toList ++ st) h') : X κ n pc L (As.reverse ++ .ref k :: st) h := by
  obtain ⟨hd, rfl⟩ := hd
  intro H locs ls hz hP hS hl
  intro T hT Xs
  subst hT
  have hsz := X_size G Xs hz hP hS
  have g1 := G.cells
  have g2 := G.slots
  have a1 := ss_le hz
  have a2 := ss_le hx.1
  have a3 := ss_le hx.2
  have f1 := G.frames
  have f2 := G.locals
  obtain ⟨h1, h2, h3, h4, h5, h6, h7, h8, ⟨b0, m0, r0, h9⟩, h10, h11⟩ := lk
  rw [show (As.reverse ++ Value.ref k :: st).map (vV (kg κ)) = (As.map (vV (kg κ))).reverse ++ .ref (cxb (kg κ) + k) :: st.map (vV (kg κ)) by rw [List.map_append, ref_adr (by omega), List.map_reverse]]
  have cw : va_CU (kR κ) (ks κ) (ka κ) own C owner idx x μ.1 μ.2.1 μ.2.2.1 μ.2.2.2 (wsy μ) (rmd d' n n') (n' - n) (ss n' - ss n) na :=
    ⟨⟨rfl, rfl, Nat.le_trans hd' f1, by show 8 + (_ + 11) + 64 * d' ≤ _; omega, lk_pay G h1, List.mem_cons_self⟩, G.words _ h1, G.words _ h2, h3, lkn h4, G.words _ h5, G.words _ h7, va_Decl.of (G.words _ h8) (G.words _ h9), G.words _ h10, G.words _ h11⟩
  refine x_go (st := st) (va_runU (C := C) (As := As.map (vV (kg κ))) (Qc := Qd (kg κ) n' Post) (g := F0 (km κ) pc ls _) ⟨G.exec, G.code, G.maxL, G.owns, G.words⟩ hM cw
    ⟨Held.blind, by rw [← hcn.2]; exact xrecv G hs hcn.1 hk.1 hP, fun U hU hW => ⟨by rw [ref_adr (by omega)], held_of G hsz hP hS hU hW⟩⟩ rfl (by rw [List.length_map]; exact hna) hl.1 rfl (lv_room (by rw [cats]; exact hw)) hd ⟨by omega, by omega⟩) hS hl hz hx.1 kk T rfl Xs
theorem x_callSU {idx na k ci n' d' : Nat} {μ : MD} {As : List Value} {Post : Option Value → Hp → Prop} (hM : Runs (kg κ) d' μ (.ref k :: As) n h n' Post) (G : Gc κ own b d) (hd : dc b pc q (.invokespecial idx) 3) (lk : LkSU own idx μ na) (hs : shp k = .inl ci) (hcn : ci < 13) (hk : k < n ∧ n ≤ 2000) (hd' : d' + 1 ≤ d) (hna : As.length = na) (hw : (st.map fun v => v.category).sum ≤ 8) (hx : n ≤ n' ∧ n' ≤ kx κ) (kk : ∀ r h', Post r h' → X κ n' q L (r.toList ++ st) h') : X κ n pc L (As.reverse ++ .ref k :: st) h := by
  obtain ⟨hd, rfl⟩ := hd
  intro H locs ls hz hP hS hl
  intro T hT Xs
  subst hT
  have hsz := X_size G Xs hz hP hS
  have g1 := G.cells
  have g2 := G.slots
  have a1 := ss_le hz
  have a2 := ss_le hx.1
  have a3 := ss_le hx.2
  have f1 := G.frames
  have f2 := G.locals
  obtain ⟨⟨h1, h2, h3, h4, h5, h6⟩, h7, h8, h9, h10⟩ := lk
  rw [show (As.reverse ++ Value.ref k :: st).map (vV (kg κ)) = (As.map (vV (kg κ))).reverse ++ .ref (cxb (kg κ) + k) :: st.map (vV (kg κ)) by rw [List.map_append, ref_adr (by omega), List.map_reverse]]
  have cw : va_CS (kR κ) (ks κ) (ka κ) own idx μ.1 μ.2.1 μ.2.2.1 μ.2.2.2 (wsy μ) (rmd d' n n') (n' - n) (ss n' - ss n) na :=
    ⟨⟨rfl, rfl, Nat.le_trans hd' f1, by show 8 + (_ + 11) + 64 * d' ≤ _; omega, lk_pay G h1, List.mem_cons_self⟩, G.words _ h5, G.words _ h9, G.words _ h10, G.words _ h8, G.words _ h2, G.words _ h1, h7, lkn h4⟩
  refine x_go (st := st) (va_runSU (C := (gcl ci).1) (G.hK.1 ci _ (cl_at hcn)).2 (As := As.map (vV (kg κ))) (Qc := Qd (kg κ) n' Post) (g := F0 (km κ) pc ls _) ⟨G.exec, G.code, G.maxL, G.owns, G.words⟩ hM cw
    ⟨Held.blind, xrecv G hs hcn hk.1 hP, fun U hU hW => ⟨by rw [ref_adr (by omega)], held_of G hsz hP hS hU hW⟩⟩ rfl (by rw [List.length_map]; exact hna) hl.1 rfl (lv_room (by rw [cats]; exact hw)) hd ⟨by omega, by omega⟩) hS hl hz hx.1 kk T rfl Xs
theorem sub_one {args : Array Value} {s : State} {C D : String} {c p : ClassId} (hc : s.vm.findClass C = some c) (hp : s.vm.findClass D = some p) (h : (Cond.superclass C D).before args s = true) : s.vm.isSubclass c p = true := by
  obtain ⟨p', k, kp, h1, h2, h3, h4, -⟩ := Cond.superclass_spec hc h
  cases hp.symm.trans h1
  have hlt := (Array.getElem?_eq_some_iff.mp h2).1
  unfold Vm.isSubclass
  generalize s.vm.classes.size = N at hlt
  cases N with
  | zero => omega
  | succ N => simp [Vm.isSubclassAux, h2, h4]
theorem x_callSI {idx na k ci n' d' : Nat} {sup : String} {μ : MD} {As : List Value} {Post : Option Value → Hp → Prop} (hM : Runs (kg κ) d' μ (.ref k :: As) n h n' Post) (G : Gc κ own b d) (hd : dc b pc q (.invokespecial idx) 3) (lk : LkSI own idx sup μ na) (hs : shp k = .inl ci) (hcn : ci < 13) (hk : k < n ∧ n ≤ 2000) (hd' : d' + 1 ≤ d) (hna : As.length = na) (hw : (st.map fun v => v.category).sum ≤ 8) (hx : n ≤ n' ∧ n' ≤ kx κ) (kk : ∀ r h', Post r h' → X κ n' q L (r.toList ++ st) h') : X κ n pc L (As.reverse ++ .ref k :: st) h := by
  obtain ⟨hd, rfl⟩ := hd
  intro H locs ls hz hP hS hl
  intro T hT Xs
  subst hT
  have hsz := X_size G Xs hz hP hS
  have g1 := G.cells
  have g2 := G.slots
  have a1 := ss_le hz
  have a2 := ss_le hx.1
  have a3 := ss_le hx.2
  have f1 := G.frames
  have f2 := G.locals
  obtain ⟨h1, h2, h4, h5, h6, h7, h8, h9, h10, h11⟩ := lk
  rw [show (As.reverse ++ Value.ref k :: st).map (vV (kg κ)) = (As.map (vV (kg κ))).reverse ++ .ref (cxb (kg κ) + k) :: st.map (vV (kg κ)) by rw [List.map_append, ref_adr (by omega), List.map_reverse]]
  have hK : Back (cxl (kg κ)) (kR κ) (kp κ) (ke κ) (kbel κ) (ks κ) (ka κ) μ.1 3 8 (PreOf (kR κ) (n' - n) (ss n' - ss n) (va_Pc ((Value.ref k :: As).map (vV (kg κ))) (Held (kg κ) n h))) (PostOf (Qd (kg κ) n' Post) (n' - n) (ss n' - ss n) (fr (kg κ))) :=
    back_of (bytes := μ.2.1) (maxL := μ.2.2.1) (ret := μ.2.2.2) hM Held.blind rfl rfl (Nat.le_trans hd' f1) (by show 8 + (_ + 11) + 64 * d' ≤ _; omega) (lk_pay G h1) List.mem_cons_self (fun a' U hW => word_at hW (ws_ok h2) (G.words _ h2))
  have hrun : va_Run (kp κ) (cxl (kg κ)) (ke κ) (kR κ) (ks κ) (km κ) (ka κ) (kbel κ) (kme κ) (kc κ) T.heap locs (n - k0 κ) (ss n - ss (k0 κ)) (n' - n) (ss n' - ss n) (F0 (km κ) pc ls ((As.map (vV (kg κ))).reverse ++ .ref (cxb (kg κ) + k) :: st.map (vV (kg κ)))) (st.map (vV (kg κ))) (Qd (kg κ) n' Post ((Value.ref k :: As).map (vV (kg κ))).toArray) (fr (kg κ)) := by
    intro T' hT' X'
    obtain ⟨cellB, hcB, hoB, hclB⟩ := xrecv G hs hcn hk.1 hP
    obtain ⟨hfc, kB, hkB, -⟩ := (G.hK.1 ci _ (cl_at hcn)).2
    have ecl := Option.some.inj (hfc.symm.trans hclB)
    rw [ecl] at hkB
    obtain ⟨mk, methM, hnamed, hmethM, hstM, habM⟩ := Cond.instanceMethod_spec (G.words _ h8)
    obtain ⟨methM', cM, hmethM', -, -, -, -, -, -, hsigM⟩ := Cond.code_spec hnamed (G.words _ h1)
    cases hmethM.symm.trans hmethM'
    obtain ⟨ps, dk, kpp, hps, hdk, hkp, hsuper, -, -, hnid⟩ := Cond.superclass_spec G.owns (G.words _ h10)
    have hfm := findClass_of_methodNamed hnamed
    have hsub := sub_one hps hfm (G.words _ h11)
    have ea : (((Value.ref k :: As).map (vV (kg κ))).toArray) = (Value.ref (cxb (kg κ) + k) :: As.map (vV (kg κ))).toArray := by rw [ref_adr (by omega)]
    obtain ⟨vm₁, X₁, hstep₁⟩ := X'.invokespecialUp (x := ⟨sup, μ.1.name, μ.1.desc⟩) (owner := μ.1.cls) G.exec G.owns (G.words _ h5) (G.words _ h9) hnamed hmethM hstM habM h7 hdk hnid hps hsuper hsub (a := cxb (kg κ) + k) (cell := cellB) (by rw [hT']; exact hcB)
      (fun z hh => by rw [hh] at hoB; cases hoB) hkB (g := F0 (km κ) pc ls ((As.map (vV (kg κ))).reverse ++ .ref (cxb (kg κ) + k) :: st.map (vV (kg κ)))) rfl (argsL := As.map (vV (kg κ))) (rest := st.map (vV (kg κ))) (by rw [List.length_map, hna]; exact lkn h4 _ hsigM) rfl (by rw [G.code]; exact hd)
    obtain ⟨v, ⟨U', l2, c2, s2⟩, X2, ⟨g', mk2, t, LL, e1, e2, hq, q1, hL, q2, q3⟩, hsteps⟩ := hK (km κ) (kme κ) (kc κ) ⟨T'.setVm vm₁, locs, n - k0 κ, ss n - ss (k0 κ)⟩ { (F0 (km κ) pc ls ((As.map (vV (kg κ))).reverse ++ .ref (cxb (kg κ) + k) :: st.map (vV (kg κ)))) with stack := st.map (vV (kg κ)) } (.invokespecial idx) mk (Value.ref (cxb (kg κ) + k) :: As.map (vV (kg κ))).toArray X₁ rfl (hl.1.trans G.maxL.symm) (by rw [G.code]; exact hd) (lv_room (by rw [cats]; exact hw)) (X₁.named hnamed)
      ⟨by show (n - k0 κ) + (n' - n) ≤ _; omega, by show (ss n - ss (k0 κ)) + (ss n' - ss n) ≤ _; omega, by rw [← ea], held_of G hsz hP hS hT' X₁.warmed⟩
    dsimp only [Pt.U, Pt.locs, Pt.cells, Pt.slots] at X2 e1 e2 q1 q2 q3 hsteps
    subst q1; subst q2; subst q3
    refine ⟨v, (T'.setVm vm₁).calling g' mk2 (Value.ref (cxb (kg κ) + k) :: As.map (vV (kg κ))).toArray, t, U', LL, hT', X2, hL, e1, e2, by rw [ea]; exact hq, fun target hh => hstep₁ _ (by rw [doInvoke_state]; exact hsteps.trans hh)⟩
  exact x_go (st := st) hrun hS hl hz hx.1 kk T rfl Xs
end XU
section XMU
variable {κ : KX} {own : String} {b : ByteArray} {d : Nat} {pc q : Nat} {L : List (Option Value)} {st : List Value} {σ : Sg}
variable {idx na k ci d' : Nat} {μ : MD} {As : List Value}
theorem m_callU_pi {C owner : String} {x : MethodName} {v : Int32} (hM : RunM (kg κ) d' μ (.ref k :: As) σ (PI v σ)) (G : Gc κ own b d) (hd : dc b pc q (.invokevirtual idx) 3) (lk : LkU own idx C owner x μ na) (hs : shp k = .inl ci) (hcn : ci < 13 ∧ (gcl ci).1 = C) (hk : k < 135) (hd' : d' + 1 ≤ d) (hna : As.length = na) (hw : (st.map fun v => v.category).sum ≤ 8) (hx : kx κ = NC) (kk : X κ NC q L (.int v :: st) (hv σ)) : X κ NC pc L (As.reverse ++ .ref k :: st) (hv σ) :=
  x_callU hM G hd lk hs hcn ⟨hk, by decide⟩ hd' hna hw ⟨Nat.le_refl _, by rw [hx]; exact Nat.le_refl _⟩ (fun r h' ⟨σ', e, e1, e2⟩ => by subst e1; subst e2; rw [e]; exact kk)
theorem m_callSU_pi {v : Int32} (hM : RunM (kg κ) d' μ (.ref k :: As) σ (PI v σ)) (G : Gc κ own b d) (hd : dc b pc q (.invokespecial idx) 3) (lk : LkSU own idx μ na) (hs : shp k = .inl ci) (hcn : ci < 13) (hk : k < 135) (hd' : d' + 1 ≤ d) (hna : As.length = na) (hw : (st.map fun v => v.category).sum ≤ 8) (hx : kx κ = NC) (kk : X κ NC q L (.int v :: st) (hv σ)) : X κ NC pc L (As.reverse ++ .ref k :: st) (hv σ) :=
  x_callSU hM G hd lk hs hcn ⟨hk, by decide⟩ hd' hna hw ⟨Nat.le_refl _, by rw [hx]; exact Nat.le_refl _⟩ (fun r h' ⟨σ', e, e1, e2⟩ => by subst e1; subst e2; rw [e]; exact kk)
theorem m_callSI_pi {sup : String} {v : Int32} (hM : RunM (kg κ) d' μ (.ref k :: As) σ (PI v σ)) (G : Gc κ own b d) (hd : dc b pc q (.invokespecial idx) 3) (lk : LkSI own idx sup μ na) (hs : shp k = .inl ci) (hcn : ci < 13) (hk : k < 135) (hd' : d' + 1 ≤ d) (hna : As.length = na) (hw : (st.map fun v => v.category).sum ≤ 8) (hx : kx κ = NC) (kk : X κ NC q L (.int v :: st) (hv σ)) : X κ NC pc L (As.reverse ++ .ref k :: st) (hv σ) :=
  x_callSI hM G hd lk hs hcn ⟨hk, by decide⟩ hd' hna hw ⟨Nat.le_refl _, by rw [hx]; exact Nat.le_refl _⟩ (fun r h' ⟨σ', e, e1, e2⟩ => by subst e1; subst e2; rw [e]; exact kk)
end XMU
