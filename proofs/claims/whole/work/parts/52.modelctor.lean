/-! the model's constructor -/
theorem k_959 : (Cond.methodLink "NoonFieldsModel" (1 : Nat) ({ cls := "java/lang/Object", name := "<init>", desc := "()V" } : MethodName)) ∈ WS := ws_in 1024 (by decide +kernel) (by decide +kernel)
theorem X_full {κ : KX} {n pc : Nat} {L : List (Option Value)} {st : List Value} {D c : Bs} {σ : Sg} (hq : ∀ a b t, rt a b = some t → (D a b || c a b) = true) (kk : X κ n pc L st (hv σ)) : X κ n pc L st (wd D c σ) := by
  rw [wd_full hq]
  exact kk
theorem full_of {D c : Bs} (hD : ∀ a b, a < 113 → D a b = true) (hc : chk c (fun a _ => decide (113 ≤ a)) = true) : ∀ a b t, rt a b = some t → (D a b || c a b) = true := by
  intro a b t ht
  by_cases h : a < 113
  · rw [hD a b h]
    rfl
  · rw [chk_sp hc ht, decide_eq_true (Nat.not_lt.mp h)]
    exact Bool.or_true _
def sgM (σ : Sg) : Sg := updS (updS (updS (updS (updS (updS (updS (updS (updS (updS (updS (updS (updS (updS (updS (updS (updS (updS (updS (updS (updS (updS (updS (updS (updS (updS (updS (updS (updS (updS (updS (updS (updS (updS σ 113 13 (-1)) 114 6 (nI 1)) 114 5 (nI 10)) 114 (ixF 0 0) (nI 8)) 114 (ixF 0 1) (nI 10)) 114 (ixF 0 2) (nI 1)) 114 (ixF 1 0) (nI 8)) 114 (ixF 1 1) (nI 10)) 114 (ixF 1 2) (nI 1)) 114 (ixF 2 0) (nI 8)) 114 (ixF 2 1) (nI 10)) 114 (ixF 2 2) (nI 1)) 114 (ixF 3 0) (nI 8)) 114 (ixF 3 1) (nI 10)) 114 (ixF 3 2) (nI 1)) 114 (ixF 4 0) (nI 8)) 114 (ixF 4 1) (nI 10)) 114 (ixF 4 2) (nI 1)) 114 (ixF 5 0) (nI 8)) 114 (ixF 5 1) (nI 10)) 114 (ixF 5 2) (nI 1)) 114 (ixF 6 0) (nI 8)) 114 (ixF 6 1) (nI 10)) 114 (ixF 6 2) (nI 1)) 114 (ixF 7 0) (nI 8)) 114 (ixF 7 1) (nI 10)) 114 (ixF 7 2) (nI 1)) 114 (ixF 8 0) (nI 8)) 114 (ixF 8 1) (nI 10)) 114 (ixF 8 2) (nI 1)) 117 0 (-1)) 117 1 (-1)) 117 2 (-1)) 117 3 (-1)
theorem b_M_init (g : CX) (d : Nat) (hd : 2 ≤ d) (D : Bs) (σ : Sg) (hD : ∀ a b, a < 113 → D a b = true) (hF : Fr 114 D cF σ) (hz : ∀ j, σ 113 j = 0) : Runs g d M_init [.ref 113] 114 (wd D cF σ) NC (fun r h => ∃ σ' : Sg, h = hv σ' ∧ PV (fun σ1 => σ1 = sgM σ) r σ') := by
  refine Runs.of 1 (by decide +kernel) rfl (by decide) (fun κ hg h0 hx hk0 G E => ?_)
  have hnm := E.2.2.2
  subst hg
  have hk : 2 ≤ kn κ := Nat.le_of_eq hk0.symm
  show X κ 114 0 [some (.ref 113), none] [] (wd D cF σ)
  refine x_aload0 G d_M_init_0 ?_
  refine x_obj G d_M_init_1 k_959 k_28 k_29 (by omega) (Nat.le_of_ble_eq_true rfl) (by decide) ?_
  refine x_aload0 G d_M_init_4 ?_
  refine x_sipush (v := nI 3090) G d_M_init_5 rfl ?_
  refine f_newa (ty := 0) (len := 3090) hF G d_M_init_8 ⟨rfl, by decide⟩ rfl k_99 rfl ⟨by decide, by decide⟩ (by rw [hx]; decide) (fun hF => ?_)
  refine f_putr hF G d_M_init_10 fl_M_7 rfl ⟨by decide, by decide⟩ rfl (by first | exact Or.inl rfl | exact Or.inr ⟨rfl, hnm, rfl⟩) (by first | exact Or.inl ⟨_, rfl⟩ | exact Or.inr ⟨_, rfl⟩) (fun hF => ?_)
  refine x_aload0 G d_M_init_13 ?_
  refine x_sipush (v := nI 3090) G d_M_init_14 rfl ?_
  refine f_newa (ty := 0) (len := 3090) hF G d_M_init_17 ⟨rfl, by decide⟩ rfl k_99 rfl ⟨by decide, by decide⟩ (by rw [hx]; decide) (fun hF => ?_)
  refine f_putr hF G d_M_init_19 fl_M_13 rfl ⟨by decide, by decide⟩ rfl (by first | exact Or.inl rfl | exact Or.inr ⟨rfl, hnm, rfl⟩) (by first | exact Or.inl ⟨_, rfl⟩ | exact Or.inr ⟨_, rfl⟩) (fun hF => ?_)
  refine x_aload0 G d_M_init_22 ?_
  refine x_sipush (v := nI 3090) G d_M_init_23 rfl ?_
  refine f_newa (ty := 0) (len := 3090) hF G d_M_init_26 ⟨rfl, by decide⟩ rfl k_99 rfl ⟨by decide, by decide⟩ (by rw [hx]; decide) (fun hF => ?_)
  refine f_putr hF G d_M_init_28 fl_M_16 rfl ⟨by decide, by decide⟩ rfl (by first | exact Or.inl rfl | exact Or.inr ⟨rfl, hnm, rfl⟩) (by first | exact Or.inl ⟨_, rfl⟩ | exact Or.inr ⟨_, rfl⟩) (fun hF => ?_)
  refine x_aload0 G d_M_init_31 ?_
  refine x_iconst (v := nI 4) G d_M_init_32 rfl ?_
  refine f_newa (ty := 0) (len := 4) hF G d_M_init_33 ⟨rfl, by decide⟩ rfl k_99 rfl ⟨by decide, by decide⟩ (by rw [hx]; decide) (fun hF => ?_)
  refine f_putr hF G d_M_init_35 fl_M_19 rfl ⟨by decide, by decide⟩ rfl (by first | exact Or.inl rfl | exact Or.inr ⟨rfl, hnm, rfl⟩) (by first | exact Or.inl ⟨_, rfl⟩ | exact Or.inr ⟨_, rfl⟩) (fun hF => ?_)
  refine x_aload0 G d_M_init_38 ?_
  refine x_iconst (v := nI 4) G d_M_init_39 rfl ?_
  refine f_newa (ty := 0) (len := 4) hF G d_M_init_40 ⟨rfl, by decide⟩ rfl k_99 rfl ⟨by decide, by decide⟩ (by rw [hx]; decide) (fun hF => ?_)
  refine f_putr hF G d_M_init_42 fl_M_22 rfl ⟨by decide, by decide⟩ rfl (by first | exact Or.inl rfl | exact Or.inr ⟨rfl, hnm, rfl⟩) (by first | exact Or.inl ⟨_, rfl⟩ | exact Or.inr ⟨_, rfl⟩) (fun hF => ?_)
  refine x_aload0 G d_M_init_45 ?_
  refine x_bipush (v := nI 96) G d_M_init_46 rfl ?_
  refine f_newa (ty := 0) (len := 96) hF G d_M_init_48 ⟨rfl, by decide⟩ rfl k_99 rfl ⟨by decide, by decide⟩ (by rw [hx]; decide) (fun hF => ?_)
  refine f_putr hF G d_M_init_50 fl_M_25 rfl ⟨by decide, by decide⟩ rfl (by first | exact Or.inl rfl | exact Or.inr ⟨rfl, hnm, rfl⟩) (by first | exact Or.inl ⟨_, rfl⟩ | exact Or.inr ⟨_, rfl⟩) (fun hF => ?_)
  refine x_aload0 G d_M_init_53 ?_
  refine x_iconst (v := nI 5) G d_M_init_54 rfl ?_
  refine f_newa (ty := 0) (len := 5) hF G d_M_init_55 ⟨rfl, by decide⟩ rfl k_99 rfl ⟨by decide, by decide⟩ (by rw [hx]; decide) (fun hF => ?_)
  refine f_putr hF G d_M_init_57 fl_M_28 rfl ⟨by decide, by decide⟩ rfl (by first | exact Or.inl rfl | exact Or.inr ⟨rfl, hnm, rfl⟩) (by first | exact Or.inl ⟨_, rfl⟩ | exact Or.inr ⟨_, rfl⟩) (fun hF => ?_)
  refine x_aload0 G d_M_init_60 ?_
  refine x_iconst (v := nI 5) G d_M_init_61 rfl ?_
  refine f_newa (ty := 0) (len := 5) hF G d_M_init_62 ⟨rfl, by decide⟩ rfl k_99 rfl ⟨by decide, by decide⟩ (by rw [hx]; decide) (fun hF => ?_)
  refine f_putr hF G d_M_init_64 fl_M_31 rfl ⟨by decide, by decide⟩ rfl (by first | exact Or.inl rfl | exact Or.inr ⟨rfl, hnm, rfl⟩) (by first | exact Or.inl ⟨_, rfl⟩ | exact Or.inr ⟨_, rfl⟩) (fun hF => ?_)
  refine x_aload0 G d_M_init_67 ?_
  refine x_iconst (v := nI 5) G d_M_init_68 rfl ?_
  refine f_newa (ty := 0) (len := 5) hF G d_M_init_69 ⟨rfl, by decide⟩ rfl k_99 rfl ⟨by decide, by decide⟩ (by rw [hx]; decide) (fun hF => ?_)
  refine f_putr hF G d_M_init_71 fl_M_34 rfl ⟨by decide, by decide⟩ rfl (by first | exact Or.inl rfl | exact Or.inr ⟨rfl, hnm, rfl⟩) (by first | exact Or.inl ⟨_, rfl⟩ | exact Or.inr ⟨_, rfl⟩) (fun hF => ?_)
  refine x_aload0 G d_M_init_74 ?_
  refine x_iconst (v := nI 5) G d_M_init_75 rfl ?_
  refine f_newa (ty := 0) (len := 5) hF G d_M_init_76 ⟨rfl, by decide⟩ rfl k_99 rfl ⟨by decide, by decide⟩ (by rw [hx]; decide) (fun hF => ?_)
  refine f_putr hF G d_M_init_78 fl_M_37 rfl ⟨by decide, by decide⟩ rfl (by first | exact Or.inl rfl | exact Or.inr ⟨rfl, hnm, rfl⟩) (by first | exact Or.inl ⟨_, rfl⟩ | exact Or.inr ⟨_, rfl⟩) (fun hF => ?_)
  refine x_aload0 G d_M_init_81 ?_
  refine x_bipush (v := nI 120) G d_M_init_82 rfl ?_
  refine f_newa (ty := 0) (len := 120) hF G d_M_init_84 ⟨rfl, by decide⟩ rfl k_99 rfl ⟨by decide, by decide⟩ (by rw [hx]; decide) (fun hF => ?_)
  refine f_putr hF G d_M_init_86 fl_M_40 rfl ⟨by decide, by decide⟩ rfl (by first | exact Or.inl rfl | exact Or.inr ⟨rfl, hnm, rfl⟩) (by first | exact Or.inl ⟨_, rfl⟩ | exact Or.inr ⟨_, rfl⟩) (fun hF => ?_)
  refine x_aload0 G d_M_init_89 ?_
  refine x_bipush (v := nI 8) G d_M_init_90 rfl ?_
  refine f_newa (ty := 0) (len := 8) hF G d_M_init_92 ⟨rfl, by decide⟩ rfl k_99 rfl ⟨by decide, by decide⟩ (by rw [hx]; decide) (fun hF => ?_)
  refine f_putr hF G d_M_init_94 fl_M_43 rfl ⟨by decide, by decide⟩ rfl (by first | exact Or.inl rfl | exact Or.inr ⟨rfl, hnm, rfl⟩) (by first | exact Or.inl ⟨_, rfl⟩ | exact Or.inr ⟨_, rfl⟩) (fun hF => ?_)
  refine x_aload0 G d_M_init_97 ?_
  refine x_iconst (v := (-1)) G d_M_init_98 rfl ?_
  refine f_puti hF G d_M_init_99 fl_M_46 rfl ⟨by decide, by decide⟩ rfl rfl rfl rfl (fun hF => ?_)
  refine x_aload0 G d_M_init_102 ?_
  refine x_bipush (v := nI 72) G d_M_init_103 rfl ?_
  refine f_newa (ty := 0) (len := 72) hF G d_M_init_105 ⟨rfl, by decide⟩ rfl k_99 rfl ⟨by decide, by decide⟩ (by rw [hx]; decide) (fun hF => ?_)
  refine f_putr hF G d_M_init_107 fl_M_50 rfl ⟨by decide, by decide⟩ rfl (by first | exact Or.inl rfl | exact Or.inr ⟨rfl, hnm, rfl⟩) (by first | exact Or.inl ⟨_, rfl⟩ | exact Or.inr ⟨_, rfl⟩) (fun hF => ?_)
  refine x_aload0 G d_M_init_110 ?_
  refine x_bipush (v := nI 90) G d_M_init_111 rfl ?_
  refine f_newa (ty := 0) (len := 90) hF G d_M_init_113 ⟨rfl, by decide⟩ rfl k_99 rfl ⟨by decide, by decide⟩ (by rw [hx]; decide) (fun hF => ?_)
  refine f_putr hF G d_M_init_115 fl_M_53 rfl ⟨by decide, by decide⟩ rfl (by first | exact Or.inl rfl | exact Or.inr ⟨rfl, hnm, rfl⟩) (by first | exact Or.inl ⟨_, rfl⟩ | exact Or.inr ⟨_, rfl⟩) (fun hF => ?_)
  refine x_aload0 G d_M_init_118 ?_
  refine x_bipush (v := nI 64) G d_M_init_119 rfl ?_
  refine f_newa (ty := 0) (len := 64) hF G d_M_init_121 ⟨rfl, by decide⟩ rfl k_99 rfl ⟨by decide, by decide⟩ (by rw [hx]; decide) (fun hF => ?_)
  refine f_putr hF G d_M_init_123 fl_M_56 rfl ⟨by decide, by decide⟩ rfl (by first | exact Or.inl rfl | exact Or.inr ⟨rfl, hnm, rfl⟩) (by first | exact Or.inl ⟨_, rfl⟩ | exact Or.inr ⟨_, rfl⟩) (fun hF => ?_)
  refine x_aload0 G d_M_init_126 ?_
  refine x_bipush (v := nI 96) G d_M_init_127 rfl ?_
  refine f_newa (ty := 0) (len := 96) hF G d_M_init_129 ⟨rfl, by decide⟩ rfl k_99 rfl ⟨by decide, by decide⟩ (by rw [hx]; decide) (fun hF => ?_)
  refine f_putr hF G d_M_init_131 fl_M_59 rfl ⟨by decide, by decide⟩ rfl (by first | exact Or.inl rfl | exact Or.inr ⟨rfl, hnm, rfl⟩) (by first | exact Or.inl ⟨_, rfl⟩ | exact Or.inr ⟨_, rfl⟩) (fun hF => ?_)
  refine x_aload0 G d_M_init_134 ?_
  refine x_sipush (v := nI 128) G d_M_init_135 rfl ?_
  refine f_newa (ty := 0) (len := 128) hF G d_M_init_138 ⟨rfl, by decide⟩ rfl k_99 rfl ⟨by decide, by decide⟩ (by rw [hx]; decide) (fun hF => ?_)
  refine f_putr hF G d_M_init_140 fl_M_62 rfl ⟨by decide, by decide⟩ rfl (by first | exact Or.inl rfl | exact Or.inr ⟨rfl, hnm, rfl⟩) (by first | exact Or.inl ⟨_, rfl⟩ | exact Or.inr ⟨_, rfl⟩) (fun hF => ?_)
  refine x_aload0 G d_M_init_143 ?_
  refine x_bipush (v := nI 100) G d_M_init_144 rfl ?_
  refine f_newa (ty := 0) (len := 100) hF G d_M_init_146 ⟨rfl, by decide⟩ rfl k_99 rfl ⟨by decide, by decide⟩ (by rw [hx]; decide) (fun hF => ?_)
  refine f_putr hF G d_M_init_148 fl_M_65 rfl ⟨by decide, by decide⟩ rfl (by first | exact Or.inl rfl | exact Or.inr ⟨rfl, hnm, rfl⟩) (by first | exact Or.inl ⟨_, rfl⟩ | exact Or.inr ⟨_, rfl⟩) (fun hF => ?_)
  refine x_aload0 G d_M_init_151 ?_
  refine x_bipush (v := nI 24) G d_M_init_152 rfl ?_
  refine f_newa (ty := 0) (len := 24) hF G d_M_init_154 ⟨rfl, by decide⟩ rfl k_99 rfl ⟨by decide, by decide⟩ (by rw [hx]; decide) (fun hF => ?_)
  refine f_putr hF G d_M_init_156 fl_M_68 rfl ⟨by decide, by decide⟩ rfl (by first | exact Or.inl rfl | exact Or.inr ⟨rfl, hnm, rfl⟩) (by first | exact Or.inl ⟨_, rfl⟩ | exact Or.inr ⟨_, rfl⟩) (fun hF => ?_)
  refine x_aload0 G d_M_init_159 ?_
  refine x_bipush (v := nI 60) G d_M_init_160 rfl ?_
  refine f_newa (ty := 0) (len := 60) hF G d_M_init_162 ⟨rfl, by decide⟩ rfl k_99 rfl ⟨by decide, by decide⟩ (by rw [hx]; decide) (fun hF => ?_)
  refine f_putr hF G d_M_init_164 fl_M_71 rfl ⟨by decide, by decide⟩ rfl (by first | exact Or.inl rfl | exact Or.inr ⟨rfl, hnm, rfl⟩) (by first | exact Or.inl ⟨_, rfl⟩ | exact Or.inr ⟨_, rfl⟩) (fun hF => ?_)
  refine x_aload0 G d_M_init_167 ?_
  refine x_bipush (v := nI 60) G d_M_init_168 rfl ?_
  refine f_newa (ty := 0) (len := 60) hF G d_M_init_170 ⟨rfl, by decide⟩ rfl k_99 rfl ⟨by decide, by decide⟩ (by rw [hx]; decide) (fun hF => ?_)
  refine f_putr hF G d_M_init_172 fl_M_74 rfl ⟨by decide, by decide⟩ rfl (by first | exact Or.inl rfl | exact Or.inr ⟨rfl, hnm, rfl⟩) (by first | exact Or.inl ⟨_, rfl⟩ | exact Or.inr ⟨_, rfl⟩) (fun hF => ?_)
  refine X_full (full_of hD (by decide +kernel)) ?_
  refine x_aload0 G d_M_init_175 ?_
  refine m_getr G d_M_init_176 fl_M_7 rfl (by decide) rfl ?_
  refine x_bipush (v := nI 6) G d_M_init_179 rfl ?_
  refine x_iconst (v := nI 1) G d_M_init_181 rfl ?_
  refine m_iast 6 G d_M_init_182 rfl rfl ⟨by decide, by decide⟩ ?_
  refine x_aload0 G d_M_init_183 ?_
  refine m_getr G d_M_init_184 fl_M_7 rfl (by decide) rfl ?_
  refine x_iconst (v := nI 5) G d_M_init_187 rfl ?_
  refine x_bipush (v := nI 10) G d_M_init_188 rfl ?_
  refine m_iast 5 G d_M_init_190 rfl rfl ⟨by decide, by decide⟩ ?_
  refine x_iconst (v := nI 0) G d_M_init_191 rfl ?_
  refine x_istore1 G d_M_init_192 rfl hk ?_
  refine x_iload1 G d_M_init_193 ?_
  refine x_bipush (v := nI 9) G d_M_init_194 rfl ?_
  refine x_icmp_ge G d_M_init_196 (fun q => absurd q (by decide +kernel)) (fun _ => ?_)
  refine x_aload0 G d_M_init_199 ?_
  refine x_iload1 G d_M_init_200 ?_
  refine x_iconst (v := nI 0) G d_M_init_201 rfl ?_
  refine x_bipush (v := nI 8) G d_M_init_202 rfl ?_
  refine m_callV_pv (p_M_puts (kg κ) (d - 1) (by omega) _ 0 0 (by decide) (by decide) (nI 8)) G d_M_init_204 lk_M_77 rfl ⟨by decide, rfl⟩ (by decide) (by omega) rfl (Nat.le_of_ble_eq_true rfl) hx (fun σ1 e1 => ?_)
  subst e1
  refine x_aload0 G d_M_init_207 ?_
  refine x_iload1 G d_M_init_208 ?_
  refine x_iconst (v := nI 1) G d_M_init_209 rfl ?_
  refine x_bipush (v := nI 10) G d_M_init_210 rfl ?_
  refine m_callV_pv (p_M_puts (kg κ) (d - 1) (by omega) _ 0 1 (by decide) (by decide) (nI 10)) G d_M_init_212 lk_M_77 rfl ⟨by decide, rfl⟩ (by decide) (by omega) rfl (Nat.le_of_ble_eq_true rfl) hx (fun σ1 e1 => ?_)
  subst e1
  refine x_aload0 G d_M_init_215 ?_
  refine x_iload1 G d_M_init_216 ?_
  refine x_iconst (v := nI 2) G d_M_init_217 rfl ?_
  refine x_iconst (v := nI 1) G d_M_init_218 rfl ?_
  refine m_callV_pv (p_M_puts (kg κ) (d - 1) (by omega) _ 0 2 (by decide) (by decide) (nI 1)) G d_M_init_219 lk_M_77 rfl ⟨by decide, rfl⟩ (by decide) (by omega) rfl (Nat.le_of_ble_eq_true rfl) hx (fun σ1 e1 => ?_)
  subst e1
  refine x_iinc1 (v := nI 1) G d_M_init_222 rfl hk rfl ?_
  refine x_goto G d_M_init_225 ?_
  refine x_iload1 G d_M_init_193 ?_
  refine x_bipush (v := nI 9) G d_M_init_194 rfl ?_
  refine x_icmp_ge G d_M_init_196 (fun q => absurd q (by decide +kernel)) (fun _ => ?_)
  refine x_aload0 G d_M_init_199 ?_
  refine x_iload1 G d_M_init_200 ?_
  refine x_iconst (v := nI 0) G d_M_init_201 rfl ?_
  refine x_bipush (v := nI 8) G d_M_init_202 rfl ?_
  refine m_callV_pv (p_M_puts (kg κ) (d - 1) (by omega) _ 1 0 (by decide) (by decide) (nI 8)) G d_M_init_204 lk_M_77 rfl ⟨by decide, rfl⟩ (by decide) (by omega) rfl (Nat.le_of_ble_eq_true rfl) hx (fun σ1 e1 => ?_)
  subst e1
  refine x_aload0 G d_M_init_207 ?_
  refine x_iload1 G d_M_init_208 ?_
  refine x_iconst (v := nI 1) G d_M_init_209 rfl ?_
  refine x_bipush (v := nI 10) G d_M_init_210 rfl ?_
  refine m_callV_pv (p_M_puts (kg κ) (d - 1) (by omega) _ 1 1 (by decide) (by decide) (nI 10)) G d_M_init_212 lk_M_77 rfl ⟨by decide, rfl⟩ (by decide) (by omega) rfl (Nat.le_of_ble_eq_true rfl) hx (fun σ1 e1 => ?_)
  subst e1
  refine x_aload0 G d_M_init_215 ?_
  refine x_iload1 G d_M_init_216 ?_
  refine x_iconst (v := nI 2) G d_M_init_217 rfl ?_
  refine x_iconst (v := nI 1) G d_M_init_218 rfl ?_
  refine m_callV_pv (p_M_puts (kg κ) (d - 1) (by omega) _ 1 2 (by decide) (by decide) (nI 1)) G d_M_init_219 lk_M_77 rfl ⟨by decide, rfl⟩ (by decide) (by omega) rfl (Nat.le_of_ble_eq_true rfl) hx (fun σ1 e1 => ?_)
  subst e1
  refine x_iinc1 (v := nI 2) G d_M_init_222 rfl hk rfl ?_
  refine x_goto G d_M_init_225 ?_
  refine x_iload1 G d_M_init_193 ?_
  refine x_bipush (v := nI 9) G d_M_init_194 rfl ?_
  refine x_icmp_ge G d_M_init_196 (fun q => absurd q (by decide +kernel)) (fun _ => ?_)
  refine x_aload0 G d_M_init_199 ?_
  refine x_iload1 G d_M_init_200 ?_
  refine x_iconst (v := nI 0) G d_M_init_201 rfl ?_
  refine x_bipush (v := nI 8) G d_M_init_202 rfl ?_
  refine m_callV_pv (p_M_puts (kg κ) (d - 1) (by omega) _ 2 0 (by decide) (by decide) (nI 8)) G d_M_init_204 lk_M_77 rfl ⟨by decide, rfl⟩ (by decide) (by omega) rfl (Nat.le_of_ble_eq_true rfl) hx (fun σ1 e1 => ?_)
  subst e1
  refine x_aload0 G d_M_init_207 ?_
  refine x_iload1 G d_M_init_208 ?_
  refine x_iconst (v := nI 1) G d_M_init_209 rfl ?_
  refine x_bipush (v := nI 10) G d_M_init_210 rfl ?_
  refine m_callV_pv (p_M_puts (kg κ) (d - 1) (by omega) _ 2 1 (by decide) (by decide) (nI 10)) G d_M_init_212 lk_M_77 rfl ⟨by decide, rfl⟩ (by decide) (by omega) rfl (Nat.le_of_ble_eq_true rfl) hx (fun σ1 e1 => ?_)
  subst e1
  refine x_aload0 G d_M_init_215 ?_
  refine x_iload1 G d_M_init_216 ?_
  refine x_iconst (v := nI 2) G d_M_init_217 rfl ?_
  refine x_iconst (v := nI 1) G d_M_init_218 rfl ?_
  refine m_callV_pv (p_M_puts (kg κ) (d - 1) (by omega) _ 2 2 (by decide) (by decide) (nI 1)) G d_M_init_219 lk_M_77 rfl ⟨by decide, rfl⟩ (by decide) (by omega) rfl (Nat.le_of_ble_eq_true rfl) hx (fun σ1 e1 => ?_)
  subst e1
  refine x_iinc1 (v := nI 3) G d_M_init_222 rfl hk rfl ?_
  refine x_goto G d_M_init_225 ?_
  refine x_iload1 G d_M_init_193 ?_
  refine x_bipush (v := nI 9) G d_M_init_194 rfl ?_
  refine x_icmp_ge G d_M_init_196 (fun q => absurd q (by decide +kernel)) (fun _ => ?_)
  refine x_aload0 G d_M_init_199 ?_
  refine x_iload1 G d_M_init_200 ?_
  refine x_iconst (v := nI 0) G d_M_init_201 rfl ?_
  refine x_bipush (v := nI 8) G d_M_init_202 rfl ?_
  refine m_callV_pv (p_M_puts (kg κ) (d - 1) (by omega) _ 3 0 (by decide) (by decide) (nI 8)) G d_M_init_204 lk_M_77 rfl ⟨by decide, rfl⟩ (by decide) (by omega) rfl (Nat.le_of_ble_eq_true rfl) hx (fun σ1 e1 => ?_)
  subst e1
  refine x_aload0 G d_M_init_207 ?_
  refine x_iload1 G d_M_init_208 ?_
  refine x_iconst (v := nI 1) G d_M_init_209 rfl ?_
  refine x_bipush (v := nI 10) G d_M_init_210 rfl ?_
  refine m_callV_pv (p_M_puts (kg κ) (d - 1) (by omega) _ 3 1 (by decide) (by decide) (nI 10)) G d_M_init_212 lk_M_77 rfl ⟨by decide, rfl⟩ (by decide) (by omega) rfl (Nat.le_of_ble_eq_true rfl) hx (fun σ1 e1 => ?_)
  subst e1
  refine x_aload0 G d_M_init_215 ?_
  refine x_iload1 G d_M_init_216 ?_
  refine x_iconst (v := nI 2) G d_M_init_217 rfl ?_
  refine x_iconst (v := nI 1) G d_M_init_218 rfl ?_
  refine m_callV_pv (p_M_puts (kg κ) (d - 1) (by omega) _ 3 2 (by decide) (by decide) (nI 1)) G d_M_init_219 lk_M_77 rfl ⟨by decide, rfl⟩ (by decide) (by omega) rfl (Nat.le_of_ble_eq_true rfl) hx (fun σ1 e1 => ?_)
  subst e1
  refine x_iinc1 (v := nI 4) G d_M_init_222 rfl hk rfl ?_
  refine x_goto G d_M_init_225 ?_
  refine x_iload1 G d_M_init_193 ?_
  refine x_bipush (v := nI 9) G d_M_init_194 rfl ?_
  refine x_icmp_ge G d_M_init_196 (fun q => absurd q (by decide +kernel)) (fun _ => ?_)
  refine x_aload0 G d_M_init_199 ?_
  refine x_iload1 G d_M_init_200 ?_
  refine x_iconst (v := nI 0) G d_M_init_201 rfl ?_
  refine x_bipush (v := nI 8) G d_M_init_202 rfl ?_
  refine m_callV_pv (p_M_puts (kg κ) (d - 1) (by omega) _ 4 0 (by decide) (by decide) (nI 8)) G d_M_init_204 lk_M_77 rfl ⟨by decide, rfl⟩ (by decide) (by omega) rfl (Nat.le_of_ble_eq_true rfl) hx (fun σ1 e1 => ?_)
  subst e1
  refine x_aload0 G d_M_init_207 ?_
  refine x_iload1 G d_M_init_208 ?_
  refine x_iconst (v := nI 1) G d_M_init_209 rfl ?_
  refine x_bipush (v := nI 10) G d_M_init_210 rfl ?_
  refine m_callV_pv (p_M_puts (kg κ) (d - 1) (by omega) _ 4 1 (by decide) (by decide) (nI 10)) G d_M_init_212 lk_M_77 rfl ⟨by decide, rfl⟩ (by decide) (by omega) rfl (Nat.le_of_ble_eq_true rfl) hx (fun σ1 e1 => ?_)
  subst e1
  refine x_aload0 G d_M_init_215 ?_
  refine x_iload1 G d_M_init_216 ?_
  refine x_iconst (v := nI 2) G d_M_init_217 rfl ?_
  refine x_iconst (v := nI 1) G d_M_init_218 rfl ?_
  refine m_callV_pv (p_M_puts (kg κ) (d - 1) (by omega) _ 4 2 (by decide) (by decide) (nI 1)) G d_M_init_219 lk_M_77 rfl ⟨by decide, rfl⟩ (by decide) (by omega) rfl (Nat.le_of_ble_eq_true rfl) hx (fun σ1 e1 => ?_)
  subst e1
  refine x_iinc1 (v := nI 5) G d_M_init_222 rfl hk rfl ?_
  refine x_goto G d_M_init_225 ?_
  refine x_iload1 G d_M_init_193 ?_
  refine x_bipush (v := nI 9) G d_M_init_194 rfl ?_
  refine x_icmp_ge G d_M_init_196 (fun q => absurd q (by decide +kernel)) (fun _ => ?_)
  refine x_aload0 G d_M_init_199 ?_
  refine x_iload1 G d_M_init_200 ?_
  refine x_iconst (v := nI 0) G d_M_init_201 rfl ?_
  refine x_bipush (v := nI 8) G d_M_init_202 rfl ?_
  refine m_callV_pv (p_M_puts (kg κ) (d - 1) (by omega) _ 5 0 (by decide) (by decide) (nI 8)) G d_M_init_204 lk_M_77 rfl ⟨by decide, rfl⟩ (by decide) (by omega) rfl (Nat.le_of_ble_eq_true rfl) hx (fun σ1 e1 => ?_)
  subst e1
  refine x_aload0 G d_M_init_207 ?_
  refine x_iload1 G d_M_init_208 ?_
  refine x_iconst (v := nI 1) G d_M_init_209 rfl ?_
  refine x_bipush (v := nI 10) G d_M_init_210 rfl ?_
  refine m_callV_pv (p_M_puts (kg κ) (d - 1) (by omega) _ 5 1 (by decide) (by decide) (nI 10)) G d_M_init_212 lk_M_77 rfl ⟨by decide, rfl⟩ (by decide) (by omega) rfl (Nat.le_of_ble_eq_true rfl) hx (fun σ1 e1 => ?_)
  subst e1
  refine x_aload0 G d_M_init_215 ?_
  refine x_iload1 G d_M_init_216 ?_
  refine x_iconst (v := nI 2) G d_M_init_217 rfl ?_
  refine x_iconst (v := nI 1) G d_M_init_218 rfl ?_
  refine m_callV_pv (p_M_puts (kg κ) (d - 1) (by omega) _ 5 2 (by decide) (by decide) (nI 1)) G d_M_init_219 lk_M_77 rfl ⟨by decide, rfl⟩ (by decide) (by omega) rfl (Nat.le_of_ble_eq_true rfl) hx (fun σ1 e1 => ?_)
  subst e1
  refine x_iinc1 (v := nI 6) G d_M_init_222 rfl hk rfl ?_
  refine x_goto G d_M_init_225 ?_
  refine x_iload1 G d_M_init_193 ?_
  refine x_bipush (v := nI 9) G d_M_init_194 rfl ?_
  refine x_icmp_ge G d_M_init_196 (fun q => absurd q (by decide +kernel)) (fun _ => ?_)
  refine x_aload0 G d_M_init_199 ?_
  refine x_iload1 G d_M_init_200 ?_
  refine x_iconst (v := nI 0) G d_M_init_201 rfl ?_
  refine x_bipush (v := nI 8) G d_M_init_202 rfl ?_
  refine m_callV_pv (p_M_puts (kg κ) (d - 1) (by omega) _ 6 0 (by decide) (by decide) (nI 8)) G d_M_init_204 lk_M_77 rfl ⟨by decide, rfl⟩ (by decide) (by omega) rfl (Nat.le_of_ble_eq_true rfl) hx (fun σ1 e1 => ?_)
  subst e1
  refine x_aload0 G d_M_init_207 ?_
  refine x_iload1 G d_M_init_208 ?_
  refine x_iconst (v := nI 1) G d_M_init_209 rfl ?_
  refine x_bipush (v := nI 10) G d_M_init_210 rfl ?_
  refine m_callV_pv (p_M_puts (kg κ) (d - 1) (by omega) _ 6 1 (by decide) (by decide) (nI 10)) G d_M_init_212 lk_M_77 rfl ⟨by decide, rfl⟩ (by decide) (by omega) rfl (Nat.le_of_ble_eq_true rfl) hx (fun σ1 e1 => ?_)
  subst e1
  refine x_aload0 G d_M_init_215 ?_
  refine x_iload1 G d_M_init_216 ?_
  refine x_iconst (v := nI 2) G d_M_init_217 rfl ?_
  refine x_iconst (v := nI 1) G d_M_init_218 rfl ?_
  refine m_callV_pv (p_M_puts (kg κ) (d - 1) (by omega) _ 6 2 (by decide) (by decide) (nI 1)) G d_M_init_219 lk_M_77 rfl ⟨by decide, rfl⟩ (by decide) (by omega) rfl (Nat.le_of_ble_eq_true rfl) hx (fun σ1 e1 => ?_)
  subst e1
  refine x_iinc1 (v := nI 7) G d_M_init_222 rfl hk rfl ?_
  refine x_goto G d_M_init_225 ?_
  refine x_iload1 G d_M_init_193 ?_
  refine x_bipush (v := nI 9) G d_M_init_194 rfl ?_
  refine x_icmp_ge G d_M_init_196 (fun q => absurd q (by decide +kernel)) (fun _ => ?_)
  refine x_aload0 G d_M_init_199 ?_
  refine x_iload1 G d_M_init_200 ?_
  refine x_iconst (v := nI 0) G d_M_init_201 rfl ?_
  refine x_bipush (v := nI 8) G d_M_init_202 rfl ?_
  refine m_callV_pv (p_M_puts (kg κ) (d - 1) (by omega) _ 7 0 (by decide) (by decide) (nI 8)) G d_M_init_204 lk_M_77 rfl ⟨by decide, rfl⟩ (by decide) (by omega) rfl (Nat.le_of_ble_eq_true rfl) hx (fun σ1 e1 => ?_)
  subst e1
  refine x_aload0 G d_M_init_207 ?_
  refine x_iload1 G d_M_init_208 ?_
  refine x_iconst (v := nI 1) G d_M_init_209 rfl ?_
  refine x_bipush (v := nI 10) G d_M_init_210 rfl ?_
  refine m_callV_pv (p_M_puts (kg κ) (d - 1) (by omega) _ 7 1 (by decide) (by decide) (nI 10)) G d_M_init_212 lk_M_77 rfl ⟨by decide, rfl⟩ (by decide) (by omega) rfl (Nat.le_of_ble_eq_true rfl) hx (fun σ1 e1 => ?_)
  subst e1
  refine x_aload0 G d_M_init_215 ?_
  refine x_iload1 G d_M_init_216 ?_
  refine x_iconst (v := nI 2) G d_M_init_217 rfl ?_
  refine x_iconst (v := nI 1) G d_M_init_218 rfl ?_
  refine m_callV_pv (p_M_puts (kg κ) (d - 1) (by omega) _ 7 2 (by decide) (by decide) (nI 1)) G d_M_init_219 lk_M_77 rfl ⟨by decide, rfl⟩ (by decide) (by omega) rfl (Nat.le_of_ble_eq_true rfl) hx (fun σ1 e1 => ?_)
  subst e1
  refine x_iinc1 (v := nI 8) G d_M_init_222 rfl hk rfl ?_
  refine x_goto G d_M_init_225 ?_
  refine x_iload1 G d_M_init_193 ?_
  refine x_bipush (v := nI 9) G d_M_init_194 rfl ?_
  refine x_icmp_ge G d_M_init_196 (fun q => absurd q (by decide +kernel)) (fun _ => ?_)
  refine x_aload0 G d_M_init_199 ?_
  refine x_iload1 G d_M_init_200 ?_
  refine x_iconst (v := nI 0) G d_M_init_201 rfl ?_
  refine x_bipush (v := nI 8) G d_M_init_202 rfl ?_
  refine m_callV_pv (p_M_puts (kg κ) (d - 1) (by omega) _ 8 0 (by decide) (by decide) (nI 8)) G d_M_init_204 lk_M_77 rfl ⟨by decide, rfl⟩ (by decide) (by omega) rfl (Nat.le_of_ble_eq_true rfl) hx (fun σ1 e1 => ?_)
  subst e1
  refine x_aload0 G d_M_init_207 ?_
  refine x_iload1 G d_M_init_208 ?_
  refine x_iconst (v := nI 1) G d_M_init_209 rfl ?_
  refine x_bipush (v := nI 10) G d_M_init_210 rfl ?_
  refine m_callV_pv (p_M_puts (kg κ) (d - 1) (by omega) _ 8 1 (by decide) (by decide) (nI 10)) G d_M_init_212 lk_M_77 rfl ⟨by decide, rfl⟩ (by decide) (by omega) rfl (Nat.le_of_ble_eq_true rfl) hx (fun σ1 e1 => ?_)
  subst e1
  refine x_aload0 G d_M_init_215 ?_
  refine x_iload1 G d_M_init_216 ?_
  refine x_iconst (v := nI 2) G d_M_init_217 rfl ?_
  refine x_iconst (v := nI 1) G d_M_init_218 rfl ?_
  refine m_callV_pv (p_M_puts (kg κ) (d - 1) (by omega) _ 8 2 (by decide) (by decide) (nI 1)) G d_M_init_219 lk_M_77 rfl ⟨by decide, rfl⟩ (by decide) (by omega) rfl (Nat.le_of_ble_eq_true rfl) hx (fun σ1 e1 => ?_)
  subst e1
  refine x_iinc1 (v := nI 9) G d_M_init_222 rfl hk rfl ?_
  refine x_goto G d_M_init_225 ?_
  refine x_iload1 G d_M_init_193 ?_
  refine x_bipush (v := nI 9) G d_M_init_194 rfl ?_
  refine x_icmp_ge G d_M_init_196 (fun _ => ?_) (fun q => absurd (by decide +kernel) q)
  refine x_iconst (v := nI 0) G d_M_init_228 rfl ?_
  refine x_istore1 G d_M_init_229 rfl hk ?_
  refine x_iload1 G d_M_init_230 ?_
  refine x_iconst (v := nI 4) G d_M_init_231 rfl ?_
  refine x_icmp_ge G d_M_init_232 (fun q => absurd q (by decide +kernel)) (fun _ => ?_)
  refine x_aload0 G d_M_init_235 ?_
  refine m_getr G d_M_init_236 fl_M_19 rfl (by decide) rfl ?_
  refine x_iload1 G d_M_init_239 ?_
  refine x_iconst (v := (-1)) G d_M_init_240 rfl ?_
  refine m_iast 0 G d_M_init_241 rfl rfl ⟨by decide, by decide⟩ ?_
  refine x_iinc1 (v := nI 1) G d_M_init_242 rfl hk rfl ?_
  refine x_goto G d_M_init_245 ?_
  refine x_iload1 G d_M_init_230 ?_
  refine x_iconst (v := nI 4) G d_M_init_231 rfl ?_
  refine x_icmp_ge G d_M_init_232 (fun q => absurd q (by decide +kernel)) (fun _ => ?_)
  refine x_aload0 G d_M_init_235 ?_
  refine m_getr G d_M_init_236 fl_M_19 rfl (by decide) rfl ?_
  refine x_iload1 G d_M_init_239 ?_
  refine x_iconst (v := (-1)) G d_M_init_240 rfl ?_
  refine m_iast 1 G d_M_init_241 rfl rfl ⟨by decide, by decide⟩ ?_
  refine x_iinc1 (v := nI 2) G d_M_init_242 rfl hk rfl ?_
  refine x_goto G d_M_init_245 ?_
  refine x_iload1 G d_M_init_230 ?_
  refine x_iconst (v := nI 4) G d_M_init_231 rfl ?_
  refine x_icmp_ge G d_M_init_232 (fun q => absurd q (by decide +kernel)) (fun _ => ?_)
  refine x_aload0 G d_M_init_235 ?_
  refine m_getr G d_M_init_236 fl_M_19 rfl (by decide) rfl ?_
  refine x_iload1 G d_M_init_239 ?_
  refine x_iconst (v := (-1)) G d_M_init_240 rfl ?_
  refine m_iast 2 G d_M_init_241 rfl rfl ⟨by decide, by decide⟩ ?_
  refine x_iinc1 (v := nI 3) G d_M_init_242 rfl hk rfl ?_
  refine x_goto G d_M_init_245 ?_
  refine x_iload1 G d_M_init_230 ?_
  refine x_iconst (v := nI 4) G d_M_init_231 rfl ?_
  refine x_icmp_ge G d_M_init_232 (fun q => absurd q (by decide +kernel)) (fun _ => ?_)
  refine x_aload0 G d_M_init_235 ?_
  refine m_getr G d_M_init_236 fl_M_19 rfl (by decide) rfl ?_
  refine x_iload1 G d_M_init_239 ?_
  refine x_iconst (v := (-1)) G d_M_init_240 rfl ?_
  refine m_iast 3 G d_M_init_241 rfl rfl ⟨by decide, by decide⟩ ?_
  refine x_iinc1 (v := nI 4) G d_M_init_242 rfl hk rfl ?_
  refine x_goto G d_M_init_245 ?_
  refine x_iload1 G d_M_init_230 ?_
  refine x_iconst (v := nI 4) G d_M_init_231 rfl ?_
  refine x_icmp_ge G d_M_init_232 (fun _ => ?_) (fun q => absurd (by decide +kernel) q)
  exact m_vret E G d_M_init_248 hx rfl ⟨rfl, rfl⟩
