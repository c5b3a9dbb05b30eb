/-! what stands between the class's object and the model, call by call -/
def LA (σ : Sg) : Prop := Good (σ 114) ∧ WRel 28 (σ 114) σ ∧ LRel (σ 114) σ ∧ σ 113 13 = -1
def LB (σ : Sg) : Prop := SO (σ 117) (σ 118) (σ 119) σ ∧ ∀ k, k < 4 → VB (shV (σ 119) k)
def LC (σ : Sg) : Prop := SLO (σ 120) (σ 121) (σ 122) (σ 123) (σ 124) σ
def LD (σ : Sg) : Prop := ∃ (B : Nat → Nat) (n : Nat), n ≤ 96 ∧ (∀ i, i < n → B i < 256) ∧ ByC B n σ ∧ ByM B n σ
def LE (σ : Sg) : Prop := ∃ T : Nat, T ≤ 60 ∧ σ 0 11 = nI T ∧ σ 113 33 = nI T ∧ σ 78 = σ 133
def LF (σ : Sg) : Prop := σ 0 12 = σ 113 3 ∧ (σ 113 3 = 0 ∨ σ 113 3 = 1) ∧ (σ 113 3 = 1 → CW 43 (σ 115) σ ∧ Inv3 (σ 115) ∧ tn (σ 115 1) ≤ tn (σ 114 1))
def LI (σ : Sg) : Prop := LA σ ∧ LB σ ∧ LC σ ∧ LD σ ∧ LE σ ∧ LF σ
theorem SHC.fr {q : Nat} {so si : Int32} {v v' : Nat → Int32} {σ σ' : Sg} (h : SHC q so si v σ) (h0 : σ' q = σ q) (h1 : σ' (q + 1) = σ (q + 1)) (h2 : σ' (q + 2) = σ (q + 2)) (hv : ∀ i, i < 24 → v' i = v i) : SHC q so si v' σ' := by
  refine ⟨by rw [h0]; exact h.1, by rw [h0]; exact h.2.1, fun i hi => ?_⟩
  rw [hv i hi, h1, h2]
  exact h.2.2 i hi
theorem VB.fr {v v' : Nat → Int32} (h : VB v) (hv : ∀ i, i < 24 → v' i = v i) : VB v' := fun i hi => by
  rw [hv i hi]
  exact h i hi
theorem LB.fr {σ σ' : Sg} (h : LB σ) (h1 : σ' 117 = σ 117) (h2 : σ' 118 = σ 118) (h3 : σ' 119 = σ 119) (hk : ∀ q, 81 ≤ q → q < 93 → σ' q = σ q) : LB σ' := by
  unfold LB
  rw [h1, h2, h3]
  exact ⟨fun k hk4 => ⟨(h.1 k hk4).1.fr (hk _ (by omega) (by omega)) (hk _ (by omega) (by omega)) (hk _ (by omega) (by omega)) (fun _ _ => rfl), (h.1 k hk4).2⟩, h.2⟩
theorem SLC.fr {q : Nat} {h hn hw hs : Int32} {row row' : Nat → Int32} {σ σ' : Sg} (g : SLC q h hn hw hs row σ) (hk : ∀ c, q ≤ c → c < q + 4 → σ' c = σ c) (hr : ∀ i, i < 24 → row' i = row i) : SLC q h hn hw hs row' σ' := by
  obtain ⟨a, b, c, d, e, so, si, v, f⟩ := g
  have h0 := hk q (by omega) (by omega)
  refine ⟨by rw [h0]; exact a, b, fun z => ?_, fun z => ?_, fun z => by rw [h0]; exact e z, so, si, v, f.fr (hk _ (by omega) (by omega)) (hk _ (by omega) (by omega)) (hk _ (by omega) (by omega)) (fun _ _ => rfl)⟩
  · rw [h0]
    exact c z
  · obtain ⟨d1, so2, d2⟩ := d z
    exact ⟨d1, so2, d2.fr (hk _ (by omega) (by omega)) (hk _ (by omega) (by omega)) (hk _ (by omega) (by omega)) hr⟩
theorem LC.fr {σ σ' : Sg} (h : LC σ) (h0 : σ' 120 = σ 120) (h1 : σ' 121 = σ 121) (h2 : σ' 122 = σ 122) (h3 : σ' 123 = σ 123) (h4 : σ' 124 = σ 124) (hk : ∀ q, 93 ≤ q → q < 113 → σ' q = σ q) : LC σ' := by
  unfold LC
  rw [h0, h1, h2, h3, h4]
  exact fun k hk5 => (h k hk5).fr (fun c a b => hk c (by omega) (by omega)) (fun _ _ => rfl)
theorem LD.fr {σ σ' : Sg} (h : LD σ) (h1 : σ' 73 2 = σ 73 2) (h2 : σ' 74 = σ 74) (h3 : σ' 113 18 = σ 113 18) (h4 : σ' 129 = σ 129) : LD σ' := by
  obtain ⟨B, n, a, b, c, d⟩ := h
  exact ⟨B, n, a, b, ⟨by rw [h1]; exact c.1, by rw [h2]; exact c.2⟩, ⟨by rw [h3]; exact d.1, by rw [h4]; exact d.2⟩⟩
theorem LE.fr {σ σ' : Sg} (h : LE σ) (h1 : σ' 0 11 = σ 0 11) (h2 : σ' 113 33 = σ 113 33) (h3 : σ' 78 = σ 78) (h4 : σ' 133 = σ 133) : LE σ' := by
  obtain ⟨T, a, b, c, d⟩ := h
  exact ⟨T, a, by rw [h1]; exact b, by rw [h2]; exact c, by rw [h3, h4]; exact d⟩
theorem LRel.fr {S : Rw} {σ σ' : Sg} (h : LRel S σ) (h14 : tn (S 1) ≤ 14) (hk : ∀ k, 10 ≤ k → k < 27 → σ' k = σ k) : LRel S σ' := LRel_agT AgT.refl hk h h14
theorem CW.fr {I : Rw} {σ σ' : Sg} (h : CW 43 I σ) (hw : ∀ k, 43 ≤ k → k < 58 → k ≠ 56 → σ' k = σ k) (hk : ∀ k, 10 ≤ k → k < 27 → σ' k = σ k) : CW 43 I σ' :=
  ⟨h.1.frame (fun k a b c => hw k a (by omega) (by omega)), h.2.1.fr h.2.2.1.2.1.2 hk, h.2.2⟩
theorem LF.fr {σ σ' : Sg} (h : LF σ) (h1 : σ' 0 12 = σ 0 12) (h2 : σ' 113 3 = σ 113 3) (h3 : σ' 115 = σ 115) (h4 : tn (σ 114 1) ≤ tn (σ' 114 1)) (hw : ∀ k, 43 ≤ k → k < 58 → σ' k = σ k) (hk : ∀ k, 10 ≤ k → k < 27 → σ' k = σ k) : LF σ' := by
  obtain ⟨a, b, c⟩ := h
  refine ⟨by rw [h1, h2]; exact a, by rw [h2]; exact b, fun z => ?_⟩
  rw [h2] at z
  obtain ⟨c1, c2, c3⟩ := c z
  rw [h3]
  exact ⟨c1.fr (fun k x y _ => hw k x y) hk, c2, Nat.le_trans c3 h4⟩
theorem LA.co {σ : Sg} (h : LA σ) : CO (σ 114) σ := ⟨h.2.1, h.2.2.1, h.1.1, h.1.2.1, h.1.2.2.1⟩
theorem LA.mo {σ σ1 : Sg} (h : LA σ) (h1 : σ1 114 = σ 114) (h2 : σ1 113 13 = σ 113 13) : MO (σ 114) σ1 := ⟨h1, h.1.1, h.1.2.1, h.1.2.2.1, by rw [h2]; exact h.2.2.2⟩
theorem LB.to {σ : Sg} (h : LB σ) : TO (σ 117) (σ 118) := fun k hk => (h.1 k hk).2
theorem LC.to {σ : Sg} (h : LC σ) : TLO (σ 120) (σ 121) (σ 123) := fun s hs => by
  obtain ⟨-, b, c, d, -⟩ := h s hs
  exact ⟨b, fun z => by obtain ⟨j, hj, e, -⟩ := c z; exact ⟨j, hj, e⟩, fun z => (d z).1⟩
/-- one call on both sides -/
abbrev dd : Nat := 200
def Pair (g : CX) (mN mM : MD) (args : List Value) (σ : Sg) : Prop := ∃ P : Int32 → Sg → Prop, RunM g dd mN (.ref 0 :: args) σ (PR P) ∧ ∀ v σ1, P v σ1 → RunM g dd mM (.ref 113 :: args) σ1 (PR (fun w σ2 => w = v ∧ LI σ2))
theorem RunM.pr {g : CX} {d : Nat} {μ : MD} {av : List Value} {σ : Sg} {P Q : Int32 → Sg → Prop} (h : RunM g d μ av σ (PR P)) (hi : ∀ v σ1, P v σ1 → Q v σ1) : RunM g d μ av σ (PR Q) := h.imp (fun _ _ ⟨v, e, p⟩ => ⟨v, e, hi _ _ p⟩)
theorem RunM.pi {g : CX} {d : Nat} {μ : MD} {av : List Value} {σ : Sg} {v : Int32} (h : RunM g d μ av σ (PI v σ)) : RunM g d μ av σ (PR (fun w σ1 => w = v ∧ σ1 = σ)) := h.imp (fun _ _ ⟨e1, e2⟩ => ⟨v, e1, rfl, e2⟩)
theorem pr_pi {g : CX} {mN mM : MD} {args : List Value} {σ : Sg} {v : Int32} (h : LI σ) (hN : RunM g dd mN (.ref 0 :: args) σ (PI v σ)) (hM : RunM g dd mM (.ref 113 :: args) σ (PI v σ)) : Pair g mN mM args σ :=
  ⟨fun w σ1 => w = v ∧ σ1 = σ, hN.pi, fun w σ1 ⟨e1, e2⟩ => by subst e1; subst e2; exact hM.pi.pr (fun x σ2 ⟨a, b⟩ => ⟨a, by rw [b]; exact h⟩)⟩
theorem li_plain {f : Int32 × Rw} {σ σ1 σ2 : Sg} {v w : Int32} (h : LI σ) (hg : GA (σ 114) f.2) (h1 : RC f σ v σ1) (h2 : MC f σ1 w σ2) : w = v ∧ LI σ2 := by
  obtain ⟨a1, a2, a3, a4⟩ := h1
  obtain ⟨b1, b2, b3⟩ := h2
  obtain ⟨hA, hB, hC, hD, hE, hF⟩ := h
  have k0 : ∀ j, j ≠ 13 → j ≠ 14 → σ2 0 j = σ 0 j := fun j x y => by rw [b3 0 (by decide) (by decide) (by decide) (by decide) (by decide) (by decide) (by decide) (by decide) (by decide) (by decide)]; exact a4 j x y
  have kk : ∀ k, k ≠ 0 → (k < 28 ∨ 43 ≤ k) → (k < 58 ∨ 73 ≤ k) → k ≠ 27 → k ≠ 79 → k ≠ 80 → k ≠ 114 → k ≠ 116 → k ≠ 125 → k ≠ 126 → k ≠ 127 → k ≠ 128 → k ≠ 130 → k ≠ 131 → k ≠ 132 → k ≠ 134 → σ2 k = σ k := fun k c1 c2 c3 c4 c5 c6 c7 c8 c9 c10 c11 c12 c13 c14 c15 c16 => by
    rw [b3 k c7 c8 c9 c10 c11 c12 c13 c14 c15 c16]
    exact a3 k c1 c2 c3 c4 c5 c6
  have e113 := kk 113 (by decide) (by decide) (by decide) (by decide) (by decide) (by decide) (by decide) (by decide) (by decide) (by decide) (by decide) (by decide) (by decide) (by decide) (by decide) (by decide)
  have eI := kk 115 (by decide) (by decide) (by decide) (by decide) (by decide) (by decide) (by decide) (by decide) (by decide) (by decide) (by decide) (by decide) (by decide) (by decide) (by decide) (by decide)
  have lo : ∀ k, 10 ≤ k → k < 27 → σ2 k = σ k := fun k x y => kk k (by omega) (by omega) (by omega) (by omega) (by omega) (by omega) (by omega) (by omega) (by omega) (by omega) (by omega) (by omega) (by omega) (by omega) (by omega) (by omega)
  have sh : ∀ k, 81 ≤ k → k < 113 → σ2 k = σ k := fun k x y => kk k (by omega) (by omega) (by omega) (by omega) (by omega) (by omega) (by omega) (by omega) (by omega) (by omega) (by omega) (by omega) (by omega) (by omega) (by omega) (by omega)
  have mh : ∀ k, 117 ≤ k → k < 125 → σ2 k = σ k := fun k x y => kk k (by omega) (by omega) (by omega) (by omega) (by omega) (by omega) (by omega) (by omega) (by omega) (by omega) (by omega) (by omega) (by omega) (by omega) (by omega) (by omega)
  have im : ∀ k, 43 ≤ k → k < 58 → σ2 k = σ k := fun k x y => kk k (by omega) (by omega) (by omega) (by omega) (by omega) (by omega) (by omega) (by omega) (by omega) (by omega) (by omega) (by omega) (by omega) (by omega) (by omega) (by omega)
  have fx : ∀ k, k = 73 ∨ k = 74 ∨ k = 78 ∨ k = 129 ∨ k = 133 → σ2 k = σ k := fun k x => kk k (by omega) (by omega) (by omega) (by omega) (by omega) (by omega) (by omega) (by omega) (by omega) (by omega) (by omega) (by omega) (by omega) (by omega) (by omega) (by omega)
  refine ⟨b1.trans a1.symm, ⟨by rw [b2]; exact hg.1, ?_, ?_, by rw [e113]; exact hA.2.2.2⟩, hB.fr (mh 117 (by omega) (by omega)) (mh 118 (by omega) (by omega)) (mh 119 (by omega) (by omega)) (fun q x y => sh q x (by omega)), hC.fr (mh 120 (by omega) (by omega)) (mh 121 (by omega) (by omega)) (mh 122 (by omega) (by omega)) (mh 123 (by omega) (by omega)) (mh 124 (by omega) (by omega)) (fun q x y => sh q (by omega) y),
    hD.fr (by rw [fx 73 (by omega)]) (fx 74 (by omega)) (by rw [e113]) (fx 129 (by omega)), hE.fr (k0 11 (by decide) (by decide)) (by rw [e113]) (fx 78 (by omega)) (fx 133 (by omega)), hF.fr (k0 12 (by decide) (by decide)) (by rw [e113]) eI (by rw [b2, hg.2.1]; exact Nat.le_refl _) im lo⟩
  · rw [b2]
    exact a2.frame (fun k x y _ => b3 k (by omega) (by omega) (by omega) (by omega) (by omega) (by omega) (by omega) (by omega) (by omega) (by omega))
  · rw [b2]
    exact LRel_agT hg.2 lo hA.2.2.1 hA.1.1.2.1.2
theorem pr_plain {g : CX} {mN mM : MD} {args : List Value} {σ : Sg} (h : LI σ) (f : Int32 × Rw) (hg : GA (σ 114) f.2) (hN : RunM g dd mN (.ref 0 :: args) σ (PR (RC f σ))) (hM : ∀ σ1, MO (σ 114) σ1 → OutC σ σ1 → RunM g dd mM (.ref 113 :: args) σ1 (PR (MC f σ1))) : Pair g mN mM args σ :=
  ⟨RC f σ, hN, fun v σ1 h1 => (hM σ1 (h.1.mo (h1.2.2.1 114 (by decide) (by decide) (by decide) (by decide) (by decide) (by decide)) (by rw [h1.2.2.1 113 (by decide) (by decide) (by decide) (by decide) (by decide) (by decide)])) h1.2.2).pr (fun w σ2 h2 => li_plain h hg h1 h2)⟩
theorem q_person {g : CX} {σ : Sg} (h : LI σ) (k b i : Int32) : Pair g N_person M_person [.int k, .int b, .int i] σ := pr_plain h (fPerson (σ 114) k b i) (g_person h.1.1 k b i) (p_N_person g dd (by decide) σ (σ 114) h.1.co k b i) (fun σ1 hO hC => p_M_person g dd (by decide) σ1 (σ 114) hO k b i)
theorem q_told {g : CX} {σ : Sg} (h : LI σ) (a b : Int32) : Pair g N_told M_told [.int a, .int b] σ := pr_plain h (fTold (σ 114) a b) (GA.rf h.1.1) (p_N_told g dd (by decide) σ (σ 114) h.1.co a b) (fun σ1 hO hC => p_M_told g dd (by decide) σ1 (σ 114) hO a b)
theorem q_walk {g : CX} {σ : Sg} (h : LI σ) (a b c : Int32) : Pair g N_walk M_walk [.int a, .int b, .int c] σ := pr_plain h (fWalk (σ 114) a b c) (GA.rf h.1.1) (p_N_walk g dd (by decide) σ (σ 114) h.1.co a b c) (fun σ1 hO hC => p_M_walk g dd (by decide) σ1 (σ 114) hO a b c)
theorem q_as {g : CX} {σ : Sg} (h : LI σ) (a b : Int32) : Pair g N_as M_as [.int a, .int b] σ := pr_plain h (fAs (σ 114) a b) (GA.rf h.1.1) (p_N_as g dd (by decide) σ (σ 114) h.1.co a b) (fun σ1 hO hC => p_M_as g dd (by decide) σ1 (σ 114) hO a b)
theorem q_turns {g : CX} {σ : Sg} (h : LI σ) (a b : Int32) : Pair g N_turns M_turns [.int a, .int b] σ := pr_plain h (fTurns (σ 114) a b) (g_turns h.1.1 a b) (p_N_turns g dd (by decide) σ (σ 114) h.1.co a b) (fun σ1 hO hC => p_M_turns g dd (by decide) σ1 (σ 114) hO a b)
theorem q_set {g : CX} {σ : Sg} (h : LI σ) (a b c : Int32) : Pair g N_set M_set [.int a, .int b, .int c] σ := pr_plain h (fSet (σ 114) a b c) (g_set h.1.1 a b c) (p_N_set g dd (by decide) σ (σ 114) h.1.co a b c) (fun σ1 hO hC => p_M_set g dd (by decide) σ1 (σ 114) hO a b c)
theorem q_talk {g : CX} {σ : Sg} (h : LI σ) (a b c : Int32) : Pair g N_talk M_talk [.int a, .int b, .int c] σ := pr_plain h (fTalk (σ 114) a b c) (g_talk h.1.1 a b c) (p_N_talk g dd (by decide) σ (σ 114) h.1.co a b c) (fun σ1 hO hC => p_M_talk g dd (by decide) σ1 (σ 114) hO a b c)
theorem q_field {g : CX} {σ : Sg} (h : LI σ) (a b : Int32) : Pair g N_field M_field [.int a, .int b] σ := pr_plain h (fField (σ 114) a b) (GA.rf h.1.1) (p_N_field g dd (by decide) σ (σ 114) h.1.co a b) (fun σ1 hO hC => p_M_field g dd (by decide) σ1 (σ 114) hO a b)
theorem q_lays {g : CX} {σ : Sg} (h : LI σ) (a b c : Int32) : Pair g N_lays M_lays [.int a, .int b, .int c] σ := pr_plain h (fLays (σ 114) a b c) (g_lays h.1.1 a b c) (p_N_lays g dd (by decide) σ (σ 114) h.1.co a b c) (fun σ1 hO hC => p_M_lays g dd (by decide) σ1 (σ 114) hO a b c)
theorem q_far {g : CX} {σ : Sg} (h : LI σ) (a b : Int32) : Pair g N_far M_far [.int a, .int b] σ := pr_plain h (fFar (σ 114) a b) (GA.rf h.1.1) (p_N_far g dd (by decide) σ (σ 114) h.1.co a b) (fun σ1 hO hC => p_M_far g dd (by decide) σ1 (σ 114) hO a b)
theorem q_late {g : CX} {σ : Sg} (h : LI σ) (a : Int32) : Pair g N_late M_late [.int a] σ := pr_plain h (fLate (σ 114) a) (g_late h.1.1 a) (p_N_late g dd (by decide) σ (σ 114) h.1.co a) (fun σ1 hO hC => p_M_late g dd (by decide) σ1 (σ 114) hO a)
theorem q_deal {g : CX} {σ : Sg} (h : LI σ) (a : Int32) : Pair g N_deal M_deal [.int a] σ := pr_plain h (fDeal (σ 114) a) (g_deal h.1.1 a) (p_N_deal g dd (by decide) σ (σ 114) h.1.co a) (fun σ1 hO hC => p_M_deal g dd (by decide) σ1 (σ 114) hO a)
theorem q_seed {g : CX} {σ : Sg} (h : LI σ) (a : Int32) : Pair g N_seed M_seed [.int a] σ := pr_plain h (fSeed (σ 114) a) (g_seed h.1.1 a) (p_N_seed g dd (by decide) σ (σ 114) h.1.co a) (fun σ1 hO hC => p_M_seed g dd (by decide) σ1 (σ 114) hO a)
theorem q_noons {g : CX} {σ : Sg} (h : LI σ) (a : Int32) : Pair g N_noons M_noons [.int a] σ := pr_plain h (fNoons (σ 114) a) (g_noons h.1.1 a) (p_N_noons g dd (by decide) σ (σ 114) h.1.co a) (fun σ1 hO hC => p_M_noons g dd (by decide) σ1 (σ 114) hO a)
theorem q_year {g : CX} {σ : Sg} (h : LI σ) (a : Int32) : Pair g N_year M_year [.int a] σ := pr_plain h (fYear (σ 114) a) (GA.rf h.1.1) (p_N_year g dd (by decide) σ (σ 114) h.1.co a) (fun σ1 hO hC => p_M_year g dd (by decide) σ1 (σ 114) hO a)
theorem q_best {g : CX} {σ : Sg} (h : LI σ) (a : Int32) : Pair g N_best M_best [.int a] σ := pr_plain h (fBest (σ 114) a) (GA.rf h.1.1) (p_N_best g dd (by decide) σ (σ 114) h.1.co a) (fun σ1 hO hC => p_M_best g dd (by decide) σ1 (σ 114) hO h.1.1.2.2.2 a)
theorem q_behind {g : CX} {σ : Sg} (h : LI σ) (a b : Int32) : Pair g N_behind M_behind [.int a, .int b] σ := pr_plain h (fBehind (σ 114) a b) (GA.rf h.1.1) (p_N_behind g dd (by decide) σ (σ 114) h.1.co a b) (fun σ1 hO hC => p_M_behind g dd (by decide) σ1 (σ 114) hO a b)
theorem q_has {g : CX} {σ : Sg} (h : LI σ) (a b c : Int32) : Pair g N_has M_has [.int a, .int b, .int c] σ := pr_plain h (fHas (σ 114) a b c) (GA.rf h.1.1) (p_N_has g dd (by decide) σ (σ 114) h.1.co a b c) (fun σ1 hO hC => p_M_has g dd (by decide) σ1 (σ 114) hO a b c)
theorem q_rota {g : CX} {σ : Sg} (h : LI σ) (a : Int32) : Pair g N_rota M_rota [.int a] σ := pr_plain h (fRota (σ 114) a) (GA.rf h.1.1) (p_N_rota g dd (by decide) σ (σ 114) h.1.co a) (fun σ1 hO hC => p_M_rota g dd (by decide) σ1 (σ 114) hO a)
theorem q_sold {g : CX} {σ : Sg} (h : LI σ) (a b c : Int32) : Pair g N_sold M_sold [.int a, .int b, .int c] σ := pr_plain h (fSold (σ 114) a b c) (GA.rf h.1.1) (p_N_sold g dd (by decide) σ (σ 114) h.1.co a b c) (fun σ1 hO hC => p_M_sold g dd (by decide) σ1 (σ 114) hO a b c)
theorem q_nobodys {g : CX} {σ : Sg} (h : LI σ) (a b : Int32) : Pair g N_nobodys M_nobodys [.int a, .int b] σ := pr_plain h (fNobodys (σ 114) a b) (GA.rf h.1.1) (p_N_nobodys g dd (by decide) σ (σ 114) h.1.co a b) (fun σ1 hO hC => p_M_nobodys g dd (by decide) σ1 (σ 114) hO a b)
theorem q_beside {g : CX} {σ : Sg} (h : LI σ) (a b : Int32) : Pair g N_beside M_beside [.int a, .int b] σ := pr_plain h (fBeside (σ 114) a b) (GA.rf h.1.1) (p_N_beside g dd (by decide) σ (σ 114) h.1.co a b) (fun σ1 hO hC => p_M_beside g dd (by decide) σ1 (σ 114) hO a b)
theorem q_toll {g : CX} {σ : Sg} (h : LI σ)  : Pair g N_toll M_toll [] σ := pr_plain h (fToll (σ 114)) (GA.rf h.1.1) (p_N_toll g dd (by decide) σ (σ 114) h.1.co) (fun σ1 hO hC => p_M_toll g dd (by decide) σ1 (σ 114) hO)
theorem q_fine {g : CX} {σ : Sg} (h : LI σ) (a : Int32) : Pair g N_fine M_fine [.int a] σ := pr_plain h (fFine (σ 114) a) (GA.rf h.1.1) (p_N_fine g dd (by decide) σ (σ 114) h.1.co a) (fun σ1 hO hC => p_M_fine g dd (by decide) σ1 (σ 114) hO a)
theorem q_textTold {g : CX} {σ : Sg} (h : LI σ) (a b : Int32) : Pair g N_textTold M_textTold [.int a, .int b] σ := pr_plain h (fTextTold (σ 114) a b) (GA.rf h.1.1) (p_N_textTold g dd (by decide) σ (σ 114) h.1.co a b) (fun σ1 hO hC => p_M_textTold g dd (by decide) σ1 (σ 114) hO a b)
theorem q_why {g : CX} {σ : Sg} (h : LI σ) (a : Int32) : Pair g N_why M_why [.int a] σ := pr_plain h (fWhy (σ 114) a) (GA.rf h.1.1) (p_N_why g dd (by decide) σ (σ 114) h.1.co a) (fun σ1 hO hC => p_M_why g dd (by decide) σ1 (σ 114) hO a)
theorem q_atHome {g : CX} {σ : Sg} (h : LI σ) (a b c : Int32) : Pair g N_atHome M_atHome [.int a, .int b, .int c] σ := pr_plain h (fAtHome (σ 114) (σ 117) (σ 118) (σ 119) a b c) (GA.rf h.1.1) (p_N_atHome g dd (by decide) σ (σ 114) h.1.co (σ 117) (σ 118) (σ 119) h.2.1.1 a b c) (fun σ1 hO hC => p_M_atHome g dd (by decide) σ1 (σ 114) hO (σ 117) (σ 118) (σ 119) (hC.1 117 (by decide) (by decide) (by decide) (by decide) (by decide) (by decide)) (hC.1 118 (by decide) (by decide) (by decide) (by decide) (by decide) (by decide)) (hC.1 119 (by decide) (by decide) (by decide) (by decide) (by decide) (by decide)) h.2.1.to h.2.1.2 a b c)
theorem q_pour {g : CX} {σ : Sg} (h : LI σ) (a : Int32) : Pair g N_pour M_pour [.int a] σ := pr_plain h (fPour (σ 114) (σ 117) (σ 118) (σ 119) a) (g_pour h.1.1 (σ 117) (σ 118) (σ 119) a) (p_N_pour g dd (by decide) σ (σ 114) h.1.co (σ 117) (σ 118) (σ 119) h.2.1.1 a) (fun σ1 hO hC => p_M_pour g dd (by decide) σ1 (σ 114) hO (σ 117) (σ 118) (σ 119) (hC.1 117 (by decide) (by decide) (by decide) (by decide) (by decide) (by decide)) (hC.1 118 (by decide) (by decide) (by decide) (by decide) (by decide) (by decide)) (hC.1 119 (by decide) (by decide) (by decide) (by decide) (by decide) (by decide)) h.2.1.to a)
theorem q_reads {g : CX} {σ : Sg} (h : LI σ) (a : Int32) : Pair g N_reads M_reads [.int a] σ := pr_plain h (fReads (σ 114) (σ 117) (σ 118) (σ 119) a) (GA.rf h.1.1) (p_N_reads g dd (by decide) σ (σ 114) h.1.co (σ 117) (σ 118) (σ 119) h.2.1.1 a) (fun σ1 hO hC => p_M_reads g dd (by decide) σ1 (σ 114) hO (σ 117) (σ 118) (σ 119) (hC.1 117 (by decide) (by decide) (by decide) (by decide) (by decide) (by decide)) (hC.1 118 (by decide) (by decide) (by decide) (by decide) (by decide) (by decide)) (hC.1 119 (by decide) (by decide) (by decide) (by decide) (by decide) (by decide)) h.2.1.to a)
theorem q_ask {g : CX} {σ : Sg} (h : LI σ) (a b : Int32) : Pair g N_ask M_ask [.int a, .int b] σ := pr_pi h (p_N_ask g dd (by decide) σ _ _ _ _ _ h.2.2.1 a b) (p_M_ask g dd (by decide) σ _ _ _ _ _ rfl rfl rfl rfl rfl h.2.2.1.to a b)
theorem q_item {g : CX} {σ : Sg} (h : LI σ) (a b : Int32) : Pair g N_item M_item [.int a, .int b] σ := pr_pi h (p_N_item g dd (by decide) σ _ _ _ _ _ h.2.2.1 a b) (p_M_item g dd (by decide) σ _ _ _ _ _ rfl rfl rfl rfl rfl h.2.2.1.to a b)
theorem q_rest {g : CX} {σ : Sg} (h : LI σ) (a b : Int32) : Pair g N_rest M_rest [.int a, .int b] σ := pr_pi h (p_N_rest g dd (by decide) σ _ _ _ _ _ h.2.2.1 a b) (p_M_rest g dd (by decide) σ _ _ _ _ _ rfl rfl rfl rfl rfl h.2.2.1.to a b)
theorem q_count {g : CX} {σ : Sg} (h : LI σ) (a : Int32) : Pair g N_count M_count [.int a] σ := by
  have hN := p_N_count g dd (by decide) σ (σ 114) h.1.co a
  have hM := p_M_count g dd (by decide) σ (σ 114) (h.1.mo rfl rfl) a
  obtain ⟨T, -, t1, t2, -⟩ := h.2.2.2.2.1
  obtain ⟨B, n, -, -, d1, d2⟩ := h.2.2.2.1
  rw [t1, d1.1] at hN
  rw [t2, d2.1] at hM
  exact pr_pi h hN hM
