/-! ===== the class: clashes, parting, trial, count ===== -/
def knC (σ : am_St) (s : mS) : Prop := RepC σ s ∧ σ.1 21 9 = 1 ∧ clsh σ (mt_sg s.2.1 s.2.2.1)
def knP (σ : am_St) (s : mS) : Prop := RepC σ s ∧ σ.1 21 10 = 1 ∧ σ.1 109 2 = mt_part s.2.1
theorem ev_X10_knowClashes {σ : am_St} {s : mS} (h : RepC σ s) : am_Ev SH mX10_knowClashes 5 [.ref 21] σ (am_rV (fun σ2 => knC σ2 s ∧ am_off XL σ σ2)) := by
  have hrep := h
  obtain ⟨h1, h2, h3, h4, h5, h6, ⟨k1, k2, k3, k4, k5⟩, h8⟩ := h
  have ht := h1.2.2.2.2
  have hS := okS_sg ht.2.2.2.2 ht.2.1 s.2.2.1
  have h9 : σ.1 21 9 = 0 ∨ σ.1 21 9 = 1 := by rcases h8.1 with z | z; exact Or.inl z; exact Or.inr z.1
  refine am_ev (by decide) [some (.ref 21)] rfl (Nat.le_of_ble_eq_true rfl) ?_
  refine go_aload_n dX10_knowClashes_0 rfl ?_
  refine go_geti fl_X10_66 dX10_knowClashes_1 sh_21 rfl ?_
  refine go_if_ne (tgt := 26) dX10_knowClashes_4 (by decide) (by rcases h9 with z | z <;> rw [z] <;> unfold inR <;> omega) (fun b4 => ?_) (fun b4 => ?_)
  · skip
    refine go_retV dX10_knowClashes_26 rfl ?_
    first
      | (have hk : σ.1 21 9 = 1 ∧ clsh σ (mt_sg s.2.1 s.2.2.1) := by rcases h8.1 with z | z; exact absurd z b4; exact z
         exact ⟨⟨hrep, hk⟩, am_off.rf⟩)
      | skip
    all_goals obtain ⟨q1, q2, q3⟩ := hq
    all_goals have nk : ∀ p, p < 44 ∨ 109 ≤ p → p ∉ CLL := fun p hp z => by rw [CLL_mem] at z; omega
    all_goals have oA : am_off (21 :: CLL) σ (am_si σ1 21 9 1) := (q3.wk (fun p hp => List.mem_cons_of_mem _ hp)).tr (am_off_si List.mem_cons_self)
    all_goals have nk2 : ∀ p, p ≠ 21 → (p < 44 ∨ 109 ≤ p) → p ∉ 21 :: CLL := fun p hp hp2 z => by rcases List.mem_cons.mp z with z | z; exact hp z; exact nk p hp2 z
    all_goals have f1 : ∀ j, σ1.1 21 j = σ.1 21 j := (q3 21 (nk 21 (by decide))).1
    all_goals have hcl : clsh (am_si σ1 21 9 1) (mt_sg s.2.1 s.2.2.1) := q1.off (ks := [21]) (am_off_si (by decide)) (by decide)
    all_goals obtain ⟨y1, a1⟩ := k1
    all_goals obtain ⟨⟨y2, a2⟩, y3, a3⟩ := k2
    all_goals obtain ⟨⟨y4, a4⟩, ⟨y5, a5⟩, ⟨y6, a6⟩, ⟨y7, a7⟩, a8, y9, a9⟩ := q2
    all_goals obtain ⟨⟨y10, a10⟩, y11, a11⟩ := k4
    all_goals obtain ⟨⟨y12, a12⟩, ⟨y13, a13⟩, y14, a14⟩ := k5
    all_goals have hof : ∀ {k n : Nat} {xs : List Int}, hold σ k n xs → k ≠ 21 → k + 1 ≠ 21 → (k + 1 < 44 ∨ 109 ≤ k) → hold (am_si σ1 21 9 1) k n xs := fun hh e1 e2 e3 => hh.off oA (nk2 _ e1 (by omega)) (nk2 _ e2 (by omega))
    all_goals have hoc : ∀ {k n : Nat} {xs : List Int}, hold σ1 k n xs → k ≠ 21 → k + 1 ≠ 21 → hold (am_si σ1 21 9 1) k n xs := fun hh e1 e2 => hold_si hh (Ne.symm e1) (Ne.symm e2)
    all_goals refine ⟨⟨⟨⟨hof h1.1 (by decide) (by decide) (by decide), hof h1.2.1 (by decide) (by decide) (by decide), hof h1.2.2.1 (by decide) (by decide) (by decide), by rw [(oA 22 (nk2 22 (by decide) (by decide))).1]; exact h1.2.2.2.1, ht⟩, hof h2 (by decide) (by decide) (by decide), hof h3 (by decide) (by decide) (by decide), ?_, ?_, ?_, ⟨⟨y1, hof a1 (by decide) (by decide) (by decide)⟩, ⟨⟨y2, hof a2 (by decide) (by decide) (by decide)⟩, y3, hof a3 (by decide) (by decide) (by decide)⟩, ⟨⟨y4, hoc a4 (by decide) (by decide)⟩, ⟨y5, hoc a5 (by decide) (by decide)⟩, ⟨y6, hoc a6 (by decide) (by decide)⟩, ⟨y7, hoc a7 (by decide) (by decide)⟩, fun i hi => by obtain ⟨ys, hy⟩ := a8 i hi; exact ⟨ys, hoc hy (by omega) (by omega)⟩, y9, hoc a9 (by decide) (by decide)⟩, ⟨⟨y10, hof a10 (by decide) (by decide) (by decide)⟩, y11, hof a11 (by decide) (by decide) (by decide)⟩, ⟨y12, hof a12 (by decide) (by decide) (by decide)⟩, ⟨y13, hof a13 (by decide) (by decide) (by decide)⟩, y14, hof a14 (by decide) (by decide) (by decide)⟩, Or.inr ⟨by simp [am_si], hcl⟩, ?_⟩, by simp [am_si], hcl⟩, oA.wk (fun p hp => XL_mem.mpr (by rcases List.mem_cons.mp hp with z | z; omega; rw [CLL_mem] at z; omega))⟩
    all_goals first
      | (simp [am_si, f1, h4]; done)
      | (simp [am_si, f1, h5]; done)
      | (simp [am_si, f1, h6]; done)
      | (rcases h8.2 with z | ⟨z1, z2⟩
         · exact Or.inl (by simp [am_si, f1, z])
         · exact Or.inr ⟨by simp [am_si, f1, z1], by rw [(oA 109 (nk2 109 (by decide) (by decide))).1]; exact z2⟩)
  · skip
    refine go_aload_n dX10_knowClashes_7 rfl ?_
    refine go_getr fl_X10_48 dX10_knowClashes_8 sh_21 rfl ?_
    refine go_aload_n dX10_knowClashes_11 rfl ?_
    refine go_getr fl_X10_10 dX10_knowClashes_12 sh_21 rfl ?_
    refine go_getr fl_X10_157 dX10_knowClashes_15 sh_22 rfl ?_
    refine go_cvV1 (M2 := mX0_find) dX10_knowClashes_18 ml_X10_248 mv_X0_find sh_43 rfl rfl (Nat.le_of_ble_eq_true rfl) (by decide) (ev_X0_find hS h1.2.2.1 (by decide) k3) (fun σ1 hq => ?_)
    refine go_aload_n dX10_knowClashes_21 rfl ?_
    refine go_iconst dX10_knowClashes_22 ?_
    refine go_puti fl_X10_66 dX10_knowClashes_23 sh_21 rfl (am_fit_bool (by omega)) ?_
    refine go_retV dX10_knowClashes_26 rfl ?_
    first
      | (have hk : σ.1 21 9 = 1 ∧ clsh σ (mt_sg s.2.1 s.2.2.1) := by rcases h8.1 with z | z; exact absurd z b4; exact z
         exact ⟨⟨hrep, hk⟩, am_off.rf⟩)
      | skip
    all_goals obtain ⟨q1, q2, q3⟩ := hq
    all_goals have nk : ∀ p, p < 44 ∨ 109 ≤ p → p ∉ CLL := fun p hp z => by rw [CLL_mem] at z; omega
    all_goals have oA : am_off (21 :: CLL) σ (am_si σ1 21 9 1) := (q3.wk (fun p hp => List.mem_cons_of_mem _ hp)).tr (am_off_si List.mem_cons_self)
    all_goals have nk2 : ∀ p, p ≠ 21 → (p < 44 ∨ 109 ≤ p) → p ∉ 21 :: CLL := fun p hp hp2 z => by rcases List.mem_cons.mp z with z | z; exact hp z; exact nk p hp2 z
    all_goals have f1 : ∀ j, σ1.1 21 j = σ.1 21 j := (q3 21 (nk 21 (by decide))).1
    all_goals have hcl : clsh (am_si σ1 21 9 1) (mt_sg s.2.1 s.2.2.1) := q1.off (ks := [21]) (am_off_si (by decide)) (by decide)
    all_goals obtain ⟨y1, a1⟩ := k1
    all_goals obtain ⟨⟨y2, a2⟩, y3, a3⟩ := k2
    all_goals obtain ⟨⟨y4, a4⟩, ⟨y5, a5⟩, ⟨y6, a6⟩, ⟨y7, a7⟩, a8, y9, a9⟩ := q2
    all_goals obtain ⟨⟨y10, a10⟩, y11, a11⟩ := k4
    all_goals obtain ⟨⟨y12, a12⟩, ⟨y13, a13⟩, y14, a14⟩ := k5
    all_goals have hof : ∀ {k n : Nat} {xs : List Int}, hold σ k n xs → k ≠ 21 → k + 1 ≠ 21 → (k + 1 < 44 ∨ 109 ≤ k) → hold (am_si σ1 21 9 1) k n xs := fun hh e1 e2 e3 => hh.off oA (nk2 _ e1 (by omega)) (nk2 _ e2 (by omega))
    all_goals have hoc : ∀ {k n : Nat} {xs : List Int}, hold σ1 k n xs → k ≠ 21 → k + 1 ≠ 21 → hold (am_si σ1 21 9 1) k n xs := fun hh e1 e2 => hold_si hh (Ne.symm e1) (Ne.symm e2)
    all_goals refine ⟨⟨⟨⟨hof h1.1 (by decide) (by decide) (by decide), hof h1.2.1 (by decide) (by decide) (by decide), hof h1.2.2.1 (by decide) (by decide) (by decide), by rw [(oA 22 (nk2 22 (by decide) (by decide))).1]; exact h1.2.2.2.1, ht⟩, hof h2 (by decide) (by decide) (by decide), hof h3 (by decide) (by decide) (by decide), ?_, ?_, ?_, ⟨⟨y1, hof a1 (by decide) (by decide) (by decide)⟩, ⟨⟨y2, hof a2 (by decide) (by decide) (by decide)⟩, y3, hof a3 (by decide) (by decide) (by decide)⟩, ⟨⟨y4, hoc a4 (by decide) (by decide)⟩, ⟨y5, hoc a5 (by decide) (by decide)⟩, ⟨y6, hoc a6 (by decide) (by decide)⟩, ⟨y7, hoc a7 (by decide) (by decide)⟩, fun i hi => by obtain ⟨ys, hy⟩ := a8 i hi; exact ⟨ys, hoc hy (by omega) (by omega)⟩, y9, hoc a9 (by decide) (by decide)⟩, ⟨⟨y10, hof a10 (by decide) (by decide) (by decide)⟩, y11, hof a11 (by decide) (by decide) (by decide)⟩, ⟨y12, hof a12 (by decide) (by decide) (by decide)⟩, ⟨y13, hof a13 (by decide) (by decide) (by decide)⟩, y14, hof a14 (by decide) (by decide) (by decide)⟩, Or.inr ⟨by simp [am_si], hcl⟩, ?_⟩, by simp [am_si], hcl⟩, oA.wk (fun p hp => XL_mem.mpr (by rcases List.mem_cons.mp hp with z | z; omega; rw [CLL_mem] at z; omega))⟩
    all_goals first
      | (simp [am_si, f1, h4]; done)
      | (simp [am_si, f1, h5]; done)
      | (simp [am_si, f1, h6]; done)
      | (rcases h8.2 with z | ⟨z1, z2⟩
         · exact Or.inl (by simp [am_si, f1, z])
         · exact Or.inr ⟨by simp [am_si, f1, z1], by rw [(oA 109 (nk2 109 (by decide) (by decide))).1]; exact z2⟩)
theorem ev_X10_knowPartings {σ : am_St} {s : mS} (h : RepC σ s) : am_Ev SH mX10_knowPartings 5 [.ref 21] σ (am_rV (fun σ2 => knP σ2 s ∧ (knC σ s → knC σ2 s) ∧ am_off XL σ σ2)) := by
  have hrep := h
  obtain ⟨h1, h2, h3, h4, h5, h6, ⟨k1, k2, k3, k4, k5⟩, h8⟩ := h
  have h10 : σ.1 21 10 = 0 ∨ σ.1 21 10 = 1 := by rcases h8.2 with z | z; exact Or.inl z; exact Or.inr z.1
  refine am_ev (by decide) [some (.ref 21)] rfl (Nat.le_of_ble_eq_true rfl) ?_
  refine go_aload_n dX10_knowPartings_0 rfl ?_
  refine go_geti fl_X10_70 dX10_knowPartings_1 sh_21 rfl ?_
  refine go_if_ne (tgt := 23) dX10_knowPartings_4 (by decide) (by rcases h10 with z | z <;> rw [z] <;> unfold inR <;> omega) (fun b4 => ?_) (fun b4 => ?_)
  · skip
    refine go_retV dX10_knowPartings_23 rfl ?_
    first
      | (have hk : σ.1 21 10 = 1 ∧ σ.1 109 2 = mt_part s.2.1 := by rcases h8.2 with z | z; exact absurd z b4; exact z
         exact ⟨⟨hrep, hk⟩, fun z => z, am_off.rf⟩)
      | skip
    all_goals obtain ⟨q1, q2, q3⟩ := hq
    all_goals have oA : am_off [21, 109, 110, 111, 112, 113, 114] σ (am_si σ1 21 10 1) := (q3.wk (by decide)).tr (am_off_si (by decide))
    all_goals have f1 : ∀ j, σ1.1 21 j = σ.1 21 j := (q3 21 (by decide)).1
    all_goals have f9 : (am_si σ1 21 10 1).1 21 9 = σ.1 21 9 := by simp [am_si, f1]
    all_goals have hcs : ∀ S, clsh σ S → clsh (am_si σ1 21 10 1) S := fun S z => z.off oA (by decide)
    all_goals obtain ⟨y1, a1⟩ := k1
    all_goals obtain ⟨⟨y2, a2⟩, y3, a3⟩ := k2
    all_goals obtain ⟨⟨y4, a4⟩, ⟨y5, a5⟩, ⟨y6, a6⟩, ⟨y7, a7⟩, a8, y9, a9⟩ := k3
    all_goals obtain ⟨⟨y10, a10⟩, y11, a11⟩ := q2
    all_goals obtain ⟨⟨y12, a12⟩, ⟨y13, a13⟩, y14, a14⟩ := k5
    all_goals have rep2 : RepC (am_si σ1 21 10 1) s := ⟨h1.off oA (by decide), h2.off oA (by decide) (by decide), h3.off oA (by decide) (by decide), by simp [am_si, f1, h4], by simp [am_si, f1, h5], by simp [am_si, f1, h6], ⟨⟨y1, a1.off oA (by decide) (by decide)⟩, ⟨⟨y2, a2.off oA (by decide) (by decide)⟩, y3, a3.off oA (by decide) (by decide)⟩, ⟨⟨y4, a4.off oA (by decide) (by decide)⟩, ⟨y5, a5.off oA (by decide) (by decide)⟩, ⟨y6, a6.off oA (by decide) (by decide)⟩, ⟨y7, a7.off oA (by decide) (by decide)⟩, fun i hi => by obtain ⟨ys, hy⟩ := a8 i hi; exact ⟨ys, hy.off oA (by simp; omega) (by simp; omega)⟩, y9, a9.off oA (by decide) (by decide)⟩, ⟨⟨y10, hold_si a10 (by decide) (by decide)⟩, y11, hold_si a11 (by decide) (by decide)⟩, ⟨y12, a12.off oA (by decide) (by decide)⟩, ⟨y13, a13.off oA (by decide) (by decide)⟩, y14, a14.off oA (by decide) (by decide)⟩, by rcases h8.1 with z | z; exact Or.inl (by rw [f9]; exact z); exact Or.inr ⟨by rw [f9]; exact z.1, hcs _ z.2⟩, Or.inr ⟨by simp [am_si], by simp [am_si]; exact q1⟩⟩
    all_goals exact ⟨⟨rep2, by simp [am_si], by simp [am_si]; exact q1⟩, fun z => ⟨rep2, by rw [f9]; exact z.2.1, hcs _ z.2.2⟩, XL_of oA (by decide)⟩
  · skip
    refine go_aload_n dX10_knowPartings_7 rfl ?_
    refine go_getr fl_X10_55 dX10_knowPartings_8 sh_21 rfl ?_
    refine go_aload_n dX10_knowPartings_11 rfl ?_
    refine go_getr fl_X10_10 dX10_knowPartings_12 sh_21 rfl ?_
    refine go_cvV1 (M2 := mX3_find) dX10_knowPartings_15 ml_X10_251 mv_X3_find sh_109 rfl rfl (Nat.le_of_ble_eq_true rfl) (by decide) (ev_X3_find h1 k4) (fun σ1 hq => ?_)
    refine go_aload_n dX10_knowPartings_18 rfl ?_
    refine go_iconst dX10_knowPartings_19 ?_
    refine go_puti fl_X10_70 dX10_knowPartings_20 sh_21 rfl (am_fit_bool (by omega)) ?_
    refine go_retV dX10_knowPartings_23 rfl ?_
    first
      | (have hk : σ.1 21 10 = 1 ∧ σ.1 109 2 = mt_part s.2.1 := by rcases h8.2 with z | z; exact absurd z b4; exact z
         exact ⟨⟨hrep, hk⟩, fun z => z, am_off.rf⟩)
      | skip
    all_goals obtain ⟨q1, q2, q3⟩ := hq
    all_goals have oA : am_off [21, 109, 110, 111, 112, 113, 114] σ (am_si σ1 21 10 1) := (q3.wk (by decide)).tr (am_off_si (by decide))
    all_goals have f1 : ∀ j, σ1.1 21 j = σ.1 21 j := (q3 21 (by decide)).1
    all_goals have f9 : (am_si σ1 21 10 1).1 21 9 = σ.1 21 9 := by simp [am_si, f1]
    all_goals have hcs : ∀ S, clsh σ S → clsh (am_si σ1 21 10 1) S := fun S z => z.off oA (by decide)
    all_goals obtain ⟨y1, a1⟩ := k1
    all_goals obtain ⟨⟨y2, a2⟩, y3, a3⟩ := k2
    all_goals obtain ⟨⟨y4, a4⟩, ⟨y5, a5⟩, ⟨y6, a6⟩, ⟨y7, a7⟩, a8, y9, a9⟩ := k3
    all_goals obtain ⟨⟨y10, a10⟩, y11, a11⟩ := q2
    all_goals obtain ⟨⟨y12, a12⟩, ⟨y13, a13⟩, y14, a14⟩ := k5
    all_goals have rep2 : RepC (am_si σ1 21 10 1) s := ⟨h1.off oA (by decide), h2.off oA (by decide) (by decide), h3.off oA (by decide) (by decide), by simp [am_si, f1, h4], by simp [am_si, f1, h5], by simp [am_si, f1, h6], ⟨⟨y1, a1.off oA (by decide) (by decide)⟩, ⟨⟨y2, a2.off oA (by decide) (by decide)⟩, y3, a3.off oA (by decide) (by decide)⟩, ⟨⟨y4, a4.off oA (by decide) (by decide)⟩, ⟨y5, a5.off oA (by decide) (by decide)⟩, ⟨y6, a6.off oA (by decide) (by decide)⟩, ⟨y7, a7.off oA (by decide) (by decide)⟩, fun i hi => by obtain ⟨ys, hy⟩ := a8 i hi; exact ⟨ys, hy.off oA (by simp; omega) (by simp; omega)⟩, y9, a9.off oA (by decide) (by decide)⟩, ⟨⟨y10, hold_si a10 (by decide) (by decide)⟩, y11, hold_si a11 (by decide) (by decide)⟩, ⟨y12, a12.off oA (by decide) (by decide)⟩, ⟨y13, a13.off oA (by decide) (by decide)⟩, y14, a14.off oA (by decide) (by decide)⟩, by rcases h8.1 with z | z; exact Or.inl (by rw [f9]; exact z); exact Or.inr ⟨by rw [f9]; exact z.1, hcs _ z.2⟩, Or.inr ⟨by simp [am_si], by simp [am_si]; exact q1⟩⟩
    all_goals exact ⟨⟨rep2, by simp [am_si], by simp [am_si]; exact q1⟩, fun z => ⟨rep2, by rw [f9]; exact z.2.1, hcs _ z.2.2⟩, XL_of oA (by decide)⟩
noncomputable def m_clash (s : mS) (w : Int) : Int := if w < 0 ∨ 5 < w then -102 else mt_val (mt_sg s.2.1 s.2.2.1) w
theorem ev_X10_clash {σ : am_St} {s : mS} {w : Int} (h : RepC σ s) (hw : inR w) : am_Ev SH mX10_clash 6 [.ref 21, .int (iZ w)] σ (am_rI (fun x σ2 => x = m_clash s w ∧ RepC σ2 s ∧ am_off XL σ σ2)) := by
  refine am_ev (by decide) [some (.ref 21), some (.int (iZ (w)))] rfl (Nat.le_of_ble_eq_true rfl) ?_
  refine go_iload_n dX10_clash_0 rfl ?_
  refine go_if_lt (tgt := 9) dX10_clash_1 (by decide) hw (fun b1 => ?_) (fun b1 => ?_)
  · skip
    refine go_bipush dX10_clash_9 rfl ?_
    refine go_retI dX10_clash_11 rfl ?_
    unfold m_clash
    rw [if_pos (by omega)]
    exact ⟨rfl, h, am_off.rf⟩
  · skip
    refine go_iload_n dX10_clash_4 rfl ?_
    refine go_iconst dX10_clash_5 ?_
    refine go_icmp_le (tgt := 12) dX10_clash_6 (by decide) hw (by unfold inR; omega) (fun b6 => ?_) (fun b6 => ?_)
    · skip
      refine go_aload_n dX10_clash_12 rfl ?_
      refine go_cvV0 (M2 := mX10_knowClashes) dX10_clash_13 ml_X10_181 mv_X10_knowClashes sh_21 rfl rfl (Nat.le_of_ble_eq_true rfl) (by decide) (ev_X10_knowClashes h) (fun σ1 hq => ?_)
      refine go_aload_n dX10_clash_16 rfl ?_
      refine go_getr fl_X10_48 dX10_clash_17 sh_21 rfl ?_
      refine go_iload_n dX10_clash_20 rfl ?_
      refine go_cvP1 (M2 := mX0_value) dX10_clash_21 ml_X10_184 mv_X0_value sh_43 rfl rfl (Nat.le_of_ble_eq_true rfl) (by decide) (ev_X0_value hq.1.2.2 (by omega) (by omega)) ?_
      refine go_retI dX10_clash_24 rfl ?_
      unfold m_clash
      rw [if_neg (by omega)]
      exact ⟨rfl, hq.1.1, hq.2⟩
    · skip
      refine go_bipush dX10_clash_9 rfl ?_
      refine go_retI dX10_clash_11 rfl ?_
      unfold m_clash
      rw [if_pos (by omega)]
      exact ⟨rfl, h, am_off.rf⟩
noncomputable def m_clashAt (s : mS) (p : Int) : Int := ln_at (mt_clT (mt_sg s.2.1 s.2.2.1)) p
theorem ev_X10_clashAt {σ : am_St} {s : mS} {p : Int} (h : RepC σ s) (hp : inR p) : am_Ev SH mX10_clashAt 6 [.ref 21, .int (iZ p)] σ (am_rI (fun x σ2 => x = m_clashAt s p ∧ RepC σ2 s ∧ am_off XL σ σ2)) := by
  refine am_ev (by decide) [some (.ref 21), some (.int (iZ (p)))] rfl (Nat.le_of_ble_eq_true rfl) ?_
  refine go_aload_n dX10_clashAt_0 rfl ?_
  refine go_cvV0 (M2 := mX10_knowClashes) dX10_clashAt_1 ml_X10_181 mv_X10_knowClashes sh_21 rfl rfl (Nat.le_of_ble_eq_true rfl) (by decide) (ev_X10_knowClashes h) (fun σ1 hq => ?_)
  refine go_aload_n dX10_clashAt_4 rfl ?_
  refine go_getr fl_X10_48 dX10_clashAt_5 sh_21 rfl ?_
  refine go_getr fl_X10_187 dX10_clashAt_8 sh_43 rfl ?_
  refine go_iload_n dX10_clashAt_11 rfl ?_
  refine go_cvP1 (M2 := mX1_at) dX10_clashAt_12 ml_X10_148 mv_X1_at hq.1.2.2.2.2.1.1 rfl rfl (Nat.le_of_ble_eq_true rfl) (by decide) (ev_X1_at hq.1.2.2.2.2.1 hp) ?_
  refine go_retI dX10_clashAt_15 rfl ?_
  exact ⟨rfl, hq.1.1, hq.2⟩
noncomputable def m_clashing (s : mS) (w p : Int) : Int := if w < 0 ∨ 1 < w then -102 else ln_at (mt_one (mt_sg s.2.1 s.2.2.1) w) p
theorem ev_X10_clashing {σ : am_St} {s : mS} {w p : Int} (h : RepC σ s) (hw : inR w) (hp : inR p) : am_Ev SH mX10_clashing 6 [.ref 21, .int (iZ w), .int (iZ p)] σ (am_rI (fun x σ2 => x = m_clashing s w p ∧ RepC σ2 s ∧ am_off XL σ σ2)) := by
  refine am_ev (by decide) [some (.ref 21), some (.int (iZ (w))), some (.int (iZ (p)))] rfl (Nat.le_of_ble_eq_true rfl) ?_
  refine go_iload_n dX10_clashing_0 rfl ?_
  refine go_if_lt (tgt := 9) dX10_clashing_1 (by decide) hw (fun b1 => ?_) (fun b1 => ?_)
  · skip
    refine go_bipush dX10_clashing_9 rfl ?_
    refine go_retI dX10_clashing_11 rfl ?_
    unfold m_clashing
    rw [if_pos (by omega)]
    exact ⟨rfl, h, am_off.rf⟩
  · skip
    refine go_iload_n dX10_clashing_4 rfl ?_
    refine go_iconst dX10_clashing_5 ?_
    refine go_icmp_le (tgt := 12) dX10_clashing_6 (by decide) hw (by unfold inR; omega) (fun b6 => ?_) (fun b6 => ?_)
    · skip
      refine go_aload_n dX10_clashing_12 rfl ?_
      refine go_cvV0 (M2 := mX10_knowClashes) dX10_clashing_13 ml_X10_181 mv_X10_knowClashes sh_21 rfl rfl (Nat.le_of_ble_eq_true rfl) (by decide) (ev_X10_knowClashes h) (fun σ1 hq => ?_)
      refine go_iload_n dX10_clashing_16 rfl ?_
      refine go_if_ne (tgt := 34) dX10_clashing_17 (by decide) hw (fun b17 => ?_) (fun b17 => ?_)
      · skip
        refine go_aload_n dX10_clashing_34 rfl ?_
        refine go_getr fl_X10_48 dX10_clashing_35 sh_21 rfl ?_
        refine go_getr fl_X10_193 dX10_clashing_38 sh_43 rfl ?_
        refine go_iload_n dX10_clashing_41 rfl ?_
        refine go_cvP1 (M2 := mX1_at) dX10_clashing_42 ml_X10_148 mv_X1_at hq.1.2.2.2.2.2.2.1.1 rfl rfl (Nat.le_of_ble_eq_true rfl) (by decide) (ev_X1_at hq.1.2.2.2.2.2.2.1 hp) ?_
        refine go_retI dX10_clashing_45 rfl ?_
        unfold m_clashing
        rw [if_neg (by omega)]
        first | (rw [show w = 1 by omega]; exact ⟨rfl, hq.1.1, hq.2⟩) | (rw [show w = 0 by omega]; exact ⟨rfl, hq.1.1, hq.2⟩)
      · skip
        refine go_aload_n dX10_clashing_20 rfl ?_
        refine go_getr fl_X10_48 dX10_clashing_21 sh_21 rfl ?_
        refine go_getr fl_X10_190 dX10_clashing_24 sh_43 rfl ?_
        refine go_iload_n dX10_clashing_27 rfl ?_
        refine go_cvP1 (M2 := mX1_at) dX10_clashing_28 ml_X10_148 mv_X1_at hq.1.2.2.2.2.2.1.1 rfl rfl (Nat.le_of_ble_eq_true rfl) (by decide) (ev_X1_at hq.1.2.2.2.2.2.1 hp) ?_
        refine go_goto (tgt := 45) dX10_clashing_31 (by decide) ?_
        refine go_retI dX10_clashing_45 rfl ?_
        unfold m_clashing
        rw [if_neg (by omega)]
        first | (rw [show w = 1 by omega]; exact ⟨rfl, hq.1.1, hq.2⟩) | (rw [show w = 0 by omega]; exact ⟨rfl, hq.1.1, hq.2⟩)
    · skip
      refine go_bipush dX10_clashing_9 rfl ?_
      refine go_retI dX10_clashing_11 rfl ?_
      unfold m_clashing
      rw [if_pos (by omega)]
      exact ⟨rfl, h, am_off.rf⟩
noncomputable def m_ahead (s : mS) (a : Int) : Int := if a < 0 ∨ ((mt_rems (mt_sg s.2.1 s.2.2.1)).length : Int) ≤ a then -101 else (((mt_rems (mt_sg s.2.1 s.2.2.1)).getD a.toNat []).length : Int)
noncomputable def m_aheadAt (s : mS) (a p : Int) : Int := if a < 0 ∨ ((mt_rems (mt_sg s.2.1 s.2.2.1)).length : Int) ≤ a then -101 else wd_char ((mt_rems (mt_sg s.2.1 s.2.2.1)).getD a.toNat []) p
theorem ev_X10_ahead {σ : am_St} {s : mS} {a : Int} (h : RepC σ s) (ha : inR a) : am_Ev SH mX10_ahead 6 [.ref 21, .int (iZ a)] σ (am_rI (fun x σ2 => x = m_ahead s a ∧ RepC σ2 s ∧ am_off XL σ σ2)) := by
  refine am_ev (by decide) [some (.ref 21), some (.int (iZ (a)))] rfl (Nat.le_of_ble_eq_true rfl) ?_
  refine go_aload_n dX10_ahead_0 rfl ?_
  refine go_cvV0 (M2 := mX10_knowClashes) dX10_ahead_1 ml_X10_181 mv_X10_knowClashes sh_21 rfl rfl (Nat.le_of_ble_eq_true rfl) (by decide) (ev_X10_knowClashes h) (fun σ1 hq => ?_)
  have hr := hq.1.2.2.1
  have h25 := hr.1.2.2.2.2.1
  rw [List.length_map] at h25
  refine go_iload_n dX10_ahead_4 rfl ?_
  refine go_if_lt (tgt := 25) dX10_ahead_5 (by decide) ha (fun b5 => ?_) (fun b5 => ?_)
  · skip
    refine go_bipush dX10_ahead_25 rfl ?_
    refine go_retI dX10_ahead_27 rfl ?_
    unfold m_ahead
    rw [if_pos (by omega)]
    exact ⟨rfl, hq.1.1, hq.2⟩
  · skip
    refine go_iload_n dX10_ahead_8 rfl ?_
    refine go_aload_n dX10_ahead_9 rfl ?_
    refine go_getr fl_X10_48 dX10_ahead_10 sh_21 rfl ?_
    refine go_getr fl_X10_196 dX10_ahead_13 sh_43 rfl ?_
    refine go_getr fl_X10_200 dX10_ahead_16 sh_44 rfl ?_
    refine go_cvP0 (M2 := mX1_size) dX10_ahead_19 ml_X10_83 mv_X1_size hr.1.1 rfl rfl (Nat.le_of_ble_eq_true rfl) (by decide) (ev_X1_size hr.1) ?_
    rw [List.length_map]
    refine go_icmp_lt (tgt := 28) dX10_ahead_22 (by decide) ha (by unfold inR; omega) (fun b22 => ?_) (fun b22 => ?_)
    · skip
      refine go_aload_n dX10_ahead_28 rfl ?_
      refine go_getr fl_X10_48 dX10_ahead_29 sh_21 rfl ?_
      refine go_getr fl_X10_196 dX10_ahead_32 sh_43 rfl ?_
      refine go_getr fl_X10_200 dX10_ahead_35 sh_44 rfl ?_
      refine go_iload_n dX10_ahead_38 rfl ?_
      refine go_cvP1 (M2 := mX1_at) dX10_ahead_39 ml_X10_148 mv_X1_at hr.1.1 rfl rfl (Nat.le_of_ble_eq_true rfl) (by decide) (ev_X1_at hr.1 ha) ?_
      rw [ln_at_map (by omega) (by omega)]
      have hok := okw_get hr.2.2 a.toNat
      refine go_csP1 (M2 := mX9_size) dX10_ahead_42 ml_X10_152 ms_X9_size (Nat.le_of_ble_eq_true rfl) (by decide) (ev_X9_size (enc_inR hok.1 hok.2)) ?_
      refine go_retI dX10_ahead_45 rfl ?_
      unfold m_ahead
      rw [if_neg (by omega), wd_sz_enc hok.1 hok.2]
      exact ⟨rfl, hq.1.1, hq.2⟩
    · skip
      refine go_bipush dX10_ahead_25 rfl ?_
      refine go_retI dX10_ahead_27 rfl ?_
      unfold m_ahead
      rw [if_pos (by omega)]
      exact ⟨rfl, hq.1.1, hq.2⟩
theorem ev_X10_aheadAt {σ : am_St} {s : mS} {a p : Int} (h : RepC σ s) (ha : inR a) (hp : inR p) : am_Ev SH mX10_aheadAt 6 [.ref 21, .int (iZ a), .int (iZ p)] σ (am_rI (fun x σ2 => x = m_aheadAt s a p ∧ RepC σ2 s ∧ am_off XL σ σ2)) := by
  refine am_ev (by decide) [some (.ref 21), some (.int (iZ (a))), some (.int (iZ (p)))] rfl (Nat.le_of_ble_eq_true rfl) ?_
  refine go_aload_n dX10_aheadAt_0 rfl ?_
  refine go_cvV0 (M2 := mX10_knowClashes) dX10_aheadAt_1 ml_X10_181 mv_X10_knowClashes sh_21 rfl rfl (Nat.le_of_ble_eq_true rfl) (by decide) (ev_X10_knowClashes h) (fun σ1 hq => ?_)
  have hr := hq.1.2.2.1
  have h25 := hr.1.2.2.2.2.1
  rw [List.length_map] at h25
  refine go_iload_n dX10_aheadAt_4 rfl ?_
  refine go_if_lt (tgt := 25) dX10_aheadAt_5 (by decide) ha (fun b5 => ?_) (fun b5 => ?_)
  · skip
    refine go_bipush dX10_aheadAt_25 rfl ?_
    refine go_retI dX10_aheadAt_27 rfl ?_
    unfold m_aheadAt
    rw [if_pos (by omega)]
    exact ⟨rfl, hq.1.1, hq.2⟩
  · skip
    refine go_iload_n dX10_aheadAt_8 rfl ?_
    refine go_aload_n dX10_aheadAt_9 rfl ?_
    refine go_getr fl_X10_48 dX10_aheadAt_10 sh_21 rfl ?_
    refine go_getr fl_X10_196 dX10_aheadAt_13 sh_43 rfl ?_
    refine go_getr fl_X10_200 dX10_aheadAt_16 sh_44 rfl ?_
    refine go_cvP0 (M2 := mX1_size) dX10_aheadAt_19 ml_X10_83 mv_X1_size hr.1.1 rfl rfl (Nat.le_of_ble_eq_true rfl) (by decide) (ev_X1_size hr.1) ?_
    rw [List.length_map]
    refine go_icmp_lt (tgt := 28) dX10_aheadAt_22 (by decide) ha (by unfold inR; omega) (fun b22 => ?_) (fun b22 => ?_)
    · skip
      refine go_aload_n dX10_aheadAt_28 rfl ?_
      refine go_getr fl_X10_48 dX10_aheadAt_29 sh_21 rfl ?_
      refine go_getr fl_X10_196 dX10_aheadAt_32 sh_43 rfl ?_
      refine go_getr fl_X10_200 dX10_aheadAt_35 sh_44 rfl ?_
      refine go_iload_n dX10_aheadAt_38 rfl ?_
      refine go_cvP1 (M2 := mX1_at) dX10_aheadAt_39 ml_X10_148 mv_X1_at hr.1.1 rfl rfl (Nat.le_of_ble_eq_true rfl) (by decide) (ev_X1_at hr.1 ha) ?_
      rw [ln_at_map (by omega) (by omega)]
      have hok := okw_get hr.2.2 a.toNat
      refine go_iload_n dX10_aheadAt_42 rfl ?_
      refine go_csP2 (M2 := mX9_character) dX10_aheadAt_43 ml_X10_164 ms_X9_character (Nat.le_of_ble_eq_true rfl) (by decide) (ev_X9_character (enc_inR hok.1 hok.2) hp) ?_
      refine go_retI dX10_aheadAt_46 rfl ?_
      unfold m_aheadAt
      rw [wd_char_enc hok.1 hok.2, if_neg (by omega)]
      exact ⟨rfl, hq.1.1, hq.2⟩
    · skip
      refine go_bipush dX10_aheadAt_25 rfl ?_
      refine go_retI dX10_aheadAt_27 rfl ?_
      unfold m_aheadAt
      rw [if_pos (by omega)]
      exact ⟨rfl, hq.1.1, hq.2⟩
noncomputable def m_parting (s : mS) (w : Int) : Int := if w < 0 ∨ 1 < w then -102 else mt_pval s.2.1 w
theorem ev_X10_parting {σ : am_St} {s : mS} {w : Int} (h : RepC σ s) (hw : inR w) : am_Ev SH mX10_parting 6 [.ref 21, .int (iZ w)] σ (am_rI (fun x σ2 => x = m_parting s w ∧ RepC σ2 s ∧ am_off XL σ σ2)) := by
  have h8 := h.1.2.2.2.2.2.1
  refine am_ev (by decide) [some (.ref 21), some (.int (iZ (w)))] rfl (Nat.le_of_ble_eq_true rfl) ?_
  refine go_iload_n dX10_parting_0 rfl ?_
  refine go_if_lt (tgt := 9) dX10_parting_1 (by decide) hw (fun b1 => ?_) (fun b1 => ?_)
  · skip
    refine go_bipush dX10_parting_9 rfl ?_
    refine go_retI dX10_parting_11 rfl ?_
    unfold m_parting
    rw [if_pos (by omega)]
    exact ⟨rfl, h, am_off.rf⟩
  · skip
    refine go_iload_n dX10_parting_4 rfl ?_
    refine go_iconst dX10_parting_5 ?_
    refine go_icmp_le (tgt := 12) dX10_parting_6 (by decide) hw (by unfold inR; omega) (fun b6 => ?_) (fun b6 => ?_)
    · skip
      refine go_aload_n dX10_parting_12 rfl ?_
      refine go_cvV0 (M2 := mX10_knowPartings) dX10_parting_13 ml_X10_205 mv_X10_knowPartings sh_21 rfl rfl (Nat.le_of_ble_eq_true rfl) (by decide) (ev_X10_knowPartings h) (fun σ1 hq => ?_)
      refine go_aload_n dX10_parting_16 rfl ?_
      refine go_getr fl_X10_55 dX10_parting_17 sh_21 rfl ?_
      refine go_iload_n dX10_parting_20 rfl ?_
      refine go_cvP1 (M2 := mX3_value) dX10_parting_21 ml_X10_208 mv_X3_value sh_109 rfl rfl (Nat.le_of_ble_eq_true rfl) (by decide) (ev_X3_value h8 hq.1.2.2 hw) ?_
      refine go_retI dX10_parting_24 rfl ?_
      unfold m_parting
      rw [if_neg (by omega)]
      exact ⟨rfl, hq.1.1, hq.2.2⟩
    · skip
      refine go_bipush dX10_parting_9 rfl ?_
      refine go_retI dX10_parting_11 rfl ?_
      unfold m_parting
      rw [if_pos (by omega)]
      exact ⟨rfl, h, am_off.rf⟩
def m_trial (s : mS) (t seed w : Int) : Int := if t < 1 ∨ 40 < t ∨ seed < 0 ∨ w < 0 ∨ 3 < w then -102 else if s.2.1.length = 0 then -103 else tr_pick (tr_run (mt_sg s.2.1 s.2.2.1) t.toNat seed (0, 0, 0, 0)) w
theorem ev_X10_trial {σ : am_St} {s : mS} {t seed w : Int} (h : RepC σ s) (ht : inR t) (hs : inR seed) (hw : inR w) : am_Ev SH mX10_trial 6 [.ref 21, .int (iZ t), .int (iZ seed), .int (iZ w)] σ (am_rI (fun x σ2 => x = m_trial s t seed w ∧ RepC σ2 s ∧ am_off XL σ σ2)) := by
  have hrep := h
  obtain ⟨h1, h2, h3, h4, h5, h6, ⟨k1, k2, k3, k4, k5⟩, h8⟩ := h
  have h8l := h1.2.2.2.2.2.1
  refine am_ev (by decide) [some (.ref 21), some (.int (iZ (t))), some (.int (iZ (seed))), some (.int (iZ (w)))] rfl (Nat.le_of_ble_eq_true rfl) ?_
  refine go_iload_n dX10_trial_0 rfl ?_
  refine go_iconst dX10_trial_1 ?_
  refine go_icmp_lt (tgt := 24) dX10_trial_2 (by decide) ht (by unfold inR; omega) (fun b2 => ?_) (fun b2 => ?_)
  · skip
    refine go_bipush dX10_trial_24 rfl ?_
    refine go_retI dX10_trial_26 rfl ?_
    unfold m_trial
    rw [if_pos (by omega)]
    exact ⟨rfl, hrep, am_off.rf⟩
  · skip
    refine go_iload_n dX10_trial_5 rfl ?_
    refine go_bipush dX10_trial_6 rfl ?_
    refine go_icmp_gt (tgt := 24) dX10_trial_8 (by decide) ht (by unfold inR; omega) (fun b8 => ?_) (fun b8 => ?_)
    · skip
      refine go_bipush dX10_trial_24 rfl ?_
      refine go_retI dX10_trial_26 rfl ?_
      unfold m_trial
      rw [if_pos (by omega)]
      exact ⟨rfl, hrep, am_off.rf⟩
    · skip
      refine go_iload_n dX10_trial_11 rfl ?_
      refine go_if_lt (tgt := 24) dX10_trial_12 (by decide) hs (fun b12 => ?_) (fun b12 => ?_)
      · skip
        refine go_bipush dX10_trial_24 rfl ?_
        refine go_retI dX10_trial_26 rfl ?_
        unfold m_trial
        rw [if_pos (by omega)]
        exact ⟨rfl, hrep, am_off.rf⟩
      · skip
        refine go_iload_n dX10_trial_15 rfl ?_
        refine go_if_lt (tgt := 24) dX10_trial_16 (by decide) hw (fun b16 => ?_) (fun b16 => ?_)
        · skip
          refine go_bipush dX10_trial_24 rfl ?_
          refine go_retI dX10_trial_26 rfl ?_
          unfold m_trial
          rw [if_pos (by omega)]
          exact ⟨rfl, hrep, am_off.rf⟩
        · skip
          refine go_iload_n dX10_trial_19 rfl ?_
          refine go_iconst dX10_trial_20 ?_
          refine go_icmp_le (tgt := 27) dX10_trial_21 (by decide) hw (by unfold inR; omega) (fun b21 => ?_) (fun b21 => ?_)
          · skip
            refine go_aload_n dX10_trial_27 rfl ?_
            refine go_getr fl_X10_10 dX10_trial_28 sh_21 rfl ?_
            refine go_cvP0 (M2 := mX6_size) dX10_trial_31 ml_X10_114 mv_X6_size sh_22 rfl rfl (Nat.le_of_ble_eq_true rfl) (by decide) (ev_X6_size h1) ?_
            refine go_if_ne (tgt := 40) dX10_trial_34 (by decide) (by unfold inR; omega) (fun b34 => ?_) (fun b34 => ?_)
            · skip
              obtain ⟨tn, htn⟩ : ∃ tn : Nat, t = (tn : Int) := ⟨t.toNat, by omega⟩
              subst htn
              refine go_aload_n dX10_trial_40 rfl ?_
              refine go_getr fl_X10_62 dX10_trial_41 sh_21 rfl ?_
              refine go_aload_n dX10_trial_44 rfl ?_
              refine go_getr fl_X10_10 dX10_trial_45 sh_21 rfl ?_
              refine go_iload_n dX10_trial_48 rfl ?_
              refine go_iload_n dX10_trial_49 rfl ?_
              refine go_cvV3 (M2 := mX8_run) dX10_trial_50 ml_X10_209 mv_X8_run sh_115 rfl rfl (Nat.le_of_ble_eq_true rfl) (by decide) (ev_X8_run h1 (by omega) k5 (by omega) (by omega) hs) (fun σ1 hq => ?_)
              refine go_aload_n dX10_trial_53 rfl ?_
              refine go_getr fl_X10_62 dX10_trial_54 sh_21 rfl ?_
              refine go_iload_n dX10_trial_57 rfl ?_
              refine go_cvP1 (M2 := mX8_value) dX10_trial_58 ml_X10_213 mv_X8_value sh_115 rfl rfl (Nat.le_of_ble_eq_true rfl) (by decide) (ev_X8_value (by omega) (by omega)) ?_
              refine go_retI dX10_trial_61 rfl ?_
              obtain ⟨q1, q2, q3⟩ := hq
              unfold m_trial
              rw [if_neg (by omega), if_neg (by omega), Int.toNat_natCast, q1]
              obtain ⟨y1, a1⟩ := k1
              obtain ⟨⟨y2, a2⟩, y3, a3⟩ := k2
              obtain ⟨⟨y4, a4⟩, ⟨y5, a5⟩, ⟨y6, a6⟩, ⟨y7, a7⟩, a8, y9, a9⟩ := k3
              obtain ⟨⟨y10, a10⟩, y11, a11⟩ := k4
              have o21 := (q3 21 (by decide)).1
              refine ⟨rfl, ⟨h1.off q3 (by decide), h2.off q3 (by decide) (by decide), h3.off q3 (by decide) (by decide), (o21 11).trans h4, (o21 12).trans h5, (o21 13).trans h6, ⟨⟨y1, a1.off q3 (by decide) (by decide)⟩, ⟨⟨y2, a2.off q3 (by decide) (by decide)⟩, y3, a3.off q3 (by decide) (by decide)⟩, ⟨⟨y4, a4.off q3 (by decide) (by decide)⟩, ⟨y5, a5.off q3 (by decide) (by decide)⟩, ⟨y6, a6.off q3 (by decide) (by decide)⟩, ⟨y7, a7.off q3 (by decide) (by decide)⟩, fun i hi => by obtain ⟨ys, hy⟩ := a8 i hi; exact ⟨ys, hy.off q3 (by unfold TRL; simp; omega) (by unfold TRL; simp; omega)⟩, y9, a9.off q3 (by decide) (by decide)⟩, ⟨⟨y10, a10.off q3 (by decide) (by decide)⟩, y11, a11.off q3 (by decide) (by decide)⟩, q2⟩, h8.off q3 (by decide)⟩, XL_of q3 (by decide)⟩
            · skip
              refine go_bipush dX10_trial_37 rfl ?_
              refine go_retI dX10_trial_39 rfl ?_
              unfold m_trial
              rw [if_neg (by omega), if_pos (by omega)]
              exact ⟨rfl, hrep, am_off.rf⟩
          · skip
            refine go_bipush dX10_trial_24 rfl ?_
            refine go_retI dX10_trial_26 rfl ?_
            unfold m_trial
            rw [if_pos (by omega)]
            exact ⟨rfl, hrep, am_off.rf⟩
def m_count (s : mS) (w : Int) : Int := if w = 0 then (s.2.1.length : Int) else if w = 1 then (s.2.2.2.2.1.length : Int) else if w = 2 then (s.2.2.2.1.length : Int) else if w = 3 then mt_bc s.2.2.1 else if w = 4 then s.2.2.2.2.2.1 else if w = 5 then s.2.2.2.2.2.2.1 else if w = 6 then s.2.2.2.2.2.2.2 else -102
theorem ev_X10_count {σ : am_St} {s : mS} {w : Int} (h : RepC σ s) (hw : inR w) : am_Ev SH mX10_count 2 [.ref 21, .int (iZ w)] σ (am_rI (fun x σ2 => x = m_count s w ∧ σ2 = σ)) := by
  obtain ⟨h1, h2, h3, h4, h5, h6, h7, h8⟩ := h
  refine am_ev (by decide) [some (.ref 21), some (.int (iZ (w)))] rfl (Nat.le_of_ble_eq_true rfl) ?_
  refine go_iload_n dX10_count_0 rfl ?_
  by_cases hout : w < 0 ∨ 6 < w
  · refine go_tswOut (tgt := 91) dX10_count_1 hw hout (by decide) ?_
    refine go_bipush dX10_count_91 rfl ?_
    refine go_retI dX10_count_93 rfl ?_
    refine ⟨?_, rfl⟩
    unfold m_count
    rw [if_neg (by omega), if_neg (by omega), if_neg (by omega), if_neg (by omega), if_neg (by omega), if_neg (by omega), if_neg (by omega)]
  rcases (show w = 0 ∨ w = 1 ∨ w = 2 ∨ w = 3 ∨ w = 4 ∨ w = 5 ∨ w = 6 by omega) with rfl | rfl | rfl | rfl | rfl | rfl | rfl
  · refine go_tswIn (tgt := 44) (off := 43) dX10_count_1 (by unfold inR; omega) (by omega) (by omega) (by rfl) (by decide) ?_
    refine go_aload_n dX10_count_44 rfl ?_
    refine go_getr fl_X10_10 dX10_count_45 sh_21 rfl ?_
    refine go_cvP0 (M2 := mX6_size) dX10_count_48 ml_X10_114 mv_X6_size sh_22 rfl rfl (Nat.le_of_ble_eq_true rfl) (by decide) (ev_X6_size h1) ?_
    refine go_retI dX10_count_51 rfl ?_
    exact ⟨rfl, rfl⟩
  · refine go_tswIn (tgt := 52) (off := 51) dX10_count_1 (by unfold inR; omega) (by omega) (by omega) (by rfl) (by decide) ?_
    refine go_aload_n dX10_count_52 rfl ?_
    refine go_getr fl_X10_21 dX10_count_53 sh_21 rfl ?_
    refine go_cvP0 (M2 := mX1_size) dX10_count_56 ml_X10_83 mv_X1_size h3.1 rfl rfl (Nat.le_of_ble_eq_true rfl) (by decide) (ev_X1_size h3) ?_
    refine go_retI dX10_count_59 rfl ?_
    exact ⟨rfl, rfl⟩
  · refine go_tswIn (tgt := 60) (off := 59) dX10_count_1 (by unfold inR; omega) (by omega) (by omega) (by rfl) (by decide) ?_
    refine go_aload_n dX10_count_60 rfl ?_
    refine go_getr fl_X10_25 dX10_count_61 sh_21 rfl ?_
    refine go_cvP0 (M2 := mX1_size) dX10_count_64 ml_X10_83 mv_X1_size h2.1 rfl rfl (Nat.le_of_ble_eq_true rfl) (by decide) (ev_X1_size h2) ?_
    refine go_retI dX10_count_67 rfl ?_
    exact ⟨rfl, rfl⟩
  · refine go_tswIn (tgt := 68) (off := 67) dX10_count_1 (by unfold inR; omega) (by omega) (by omega) (by rfl) (by decide) ?_
    refine go_aload_n dX10_count_68 rfl ?_
    refine go_getr fl_X10_10 dX10_count_69 sh_21 rfl ?_
    refine go_cvP0 (M2 := mX6_markedRules) dX10_count_72 ml_X10_214 mv_X6_markedRules sh_22 rfl rfl (Nat.le_of_ble_eq_true rfl) (by decide) (ev_X6_markedRules h1) ?_
    refine go_retI dX10_count_75 rfl ?_
    exact ⟨rfl, rfl⟩
  · refine go_tswIn (tgt := 76) (off := 75) dX10_count_1 (by unfold inR; omega) (by omega) (by omega) (by rfl) (by decide) ?_
    refine go_aload_n dX10_count_76 rfl ?_
    refine go_geti fl_X10_73 dX10_count_77 sh_21 rfl ?_
    refine go_retI dX10_count_80 rfl ?_
    exact ⟨h4, rfl⟩
  · refine go_tswIn (tgt := 81) (off := 80) dX10_count_1 (by unfold inR; omega) (by omega) (by omega) (by rfl) (by decide) ?_
    refine go_aload_n dX10_count_81 rfl ?_
    refine go_geti fl_X10_77 dX10_count_82 sh_21 rfl ?_
    refine go_retI dX10_count_85 rfl ?_
    exact ⟨h5, rfl⟩
  · refine go_tswIn (tgt := 86) (off := 85) dX10_count_1 (by unfold inR; omega) (by omega) (by omega) (by rfl) (by decide) ?_
    refine go_aload_n dX10_count_86 rfl ?_
    refine go_geti fl_X10_80 dX10_count_87 sh_21 rfl ?_
    refine go_retI dX10_count_90 rfl ?_
    exact ⟨h6, rfl⟩
