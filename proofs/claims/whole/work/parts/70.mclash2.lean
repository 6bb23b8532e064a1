/-! ===== the reference: rowMany, clashTold, clashNow, clash, clashAt, clashing ===== -/
theorem rowAt_in {l : List Int} (hl : ∀ r ∈ l, 0 ≤ r) {k : Nat} (hk : k < l.length) : 0 ≤ rowAt l (k : Int) := by
  unfold rowAt
  rw [if_pos (by omega), ln_at_get (List.getElem?_eq_getElem hk)]
  exact hl _ (List.getElem_mem _)
theorem rowAt_out {l : List Int} {p : Int} (hp : (l.length : Int) ≤ p) : rowAt l p = -1 := by
  unfold rowAt
  rw [if_neg (by omega)]
theorem ev_X11_rowMany {σ : am_St} {L R : List (List Int)} {m : Nat} {xs : List Int} {which : Int} (h : tbM σ L R m) (hw : wkM σ xs) (hsp : spM σ (mt_sg R m) xs 0) (h0 : 0 ≤ which) (h1 : which ≤ 1) : am_Ev SH mX11_rowMany 3 [.ref 0, .int (iZ which)] σ (am_rI (fun x σ2 => x = ((mt_pick (mt_sg R m) xs which).length : Int) ∧ σ2 = σ)) := by
  have hbd := mt_pick_bd (mt_sg R m) xs which
  have h200 := hw.2.2.2
  have h8 := h.S8
  have hR : ∀ p, inR (rowAt (mt_pick (mt_sg R m) xs which) p) := fun p => rowAt_R (n := ((mt_sg R m).length : Int)) (by unfold inR; omega) hbd.2 p
  have loop : ∀ (m2 : Nat) (k : Nat), (mt_pick (mt_sg R m) xs which).length - k < m2 → k ≤ (mt_pick (mt_sg R m) xs which).length → am_Go SH mX11_rowMany 3 (am_rI (fun x σ2 => x = ((mt_pick (mt_sg R m) xs which).length : Int) ∧ σ2 = σ)) 2 [some (.ref 0), some (.int (iZ which)), some (.int (iZ (k : Int)))] [] σ := by
    intro m2
    induction m2 with
    | zero => intro k hm; exact absurd hm (by omega)
    | succ m2 ih =>
      intro k hm hk
      by_cases hlt : k < (mt_pick (mt_sg R m) xs which).length
      · have hin := rowAt_in (fun r hr => (hbd.2 r hr).1) hlt
        refine go_aload_n dX11_rowMany_2 rfl ?_
        refine go_iload_n dX11_rowMany_3 rfl ?_
        refine go_iload_n dX11_rowMany_4 rfl ?_
        refine go_cvP2 (M2 := mX11_ruleIn) dX11_rowMany_5 ml_X11_201 mv_X11_ruleIn sh_0 rfl rfl (Nat.le_of_ble_eq_true rfl) (by decide) (ev_X11_ruleIn h hw hsp h0 h1 (by unfold inR; omega)) ?_
        refine go_iconst dX11_rowMany_8 ?_
        refine go_icmp_eq (tgt := 18) dX11_rowMany_9 (by decide) (hR _) (by unfold inR; omega) (fun b9 => ?_) (fun b9 => ?_)
        · skip
          omega
        · skip
          refine go_inc2 dX11_rowMany_12 (Nat.le_of_ble_eq_true rfl) rfl ?_
          refine go_goto (tgt := 2) dX11_rowMany_15 (by decide) ?_
          exact ih (k + 1) (by omega) (by omega)
      · have hin := rowAt_out (l := mt_pick (mt_sg R m) xs which) (p := (k : Int)) (by omega)
        refine go_aload_n dX11_rowMany_2 rfl ?_
        refine go_iload_n dX11_rowMany_3 rfl ?_
        refine go_iload_n dX11_rowMany_4 rfl ?_
        refine go_cvP2 (M2 := mX11_ruleIn) dX11_rowMany_5 ml_X11_201 mv_X11_ruleIn sh_0 rfl rfl (Nat.le_of_ble_eq_true rfl) (by decide) (ev_X11_ruleIn h hw hsp h0 h1 (by unfold inR; omega)) ?_
        refine go_iconst dX11_rowMany_8 ?_
        refine go_icmp_eq (tgt := 18) dX11_rowMany_9 (by decide) (hR _) (by unfold inR; omega) (fun b9 => ?_) (fun b9 => ?_)
        · skip
          refine go_iload_n dX11_rowMany_18 rfl ?_
          refine go_retI dX11_rowMany_19 rfl ?_
          exact ⟨by omega, rfl⟩
        · skip
          omega
  refine am_ev (by decide) [some (.ref 0), some (.int (iZ (which))), none] rfl (Nat.le_of_ble_eq_true rfl) ?_
  refine go_iconst dX11_rowMany_0 ?_
  refine go_ist2 dX11_rowMany_1 (Nat.le_of_ble_eq_true rfl) rfl ?_
  exact loop ((mt_pick (mt_sg R m) xs which).length + 1) 0 (by omega) (by omega)
theorem ev_X11_clashTold {σ : am_St} {L R : List (List Int)} {m : Nat} {w : Int} (h : tbM σ L R m) (h1 : 1 ≤ w) (h4 : w ≤ 4) : am_Ev SH mX11_clashTold 8 [.ref 0, .int (iZ w)] σ (am_rI (fun x σ2 => x = mt_val (mt_sg R m) w ∧ fr CKF CKA σ σ2)) := by
  cases hcl : mt_cl (mt_sg R m) with
  | none =>
    refine am_ev (by decide) [some (.ref 0), some (.int (iZ (w)))] rfl (Nat.le_of_ble_eq_true rfl) ?_
    refine go_aload_n dX11_clashTold_0 rfl ?_
    refine go_cvV0 (M2 := mX11_layClash) dX11_clashTold_1 ml_X11_282 mv_X11_layClash sh_0 rfl rfl (Nat.le_of_ble_eq_true rfl) (by decide) (ev_X11_layClash h) (fun σ1 hq => ?_)
    have e34 : σ1.1 0 34 = -1 := by have := hq.1.1; rw [hcl] at this; exact this
    refine go_aload_n dX11_clashTold_4 rfl ?_
    refine go_geti fl_X11_269 dX11_clashTold_5 sh_0 rfl ?_
    first | (rw [e34]) | skip
    refine go_iconst dX11_clashTold_8 ?_
    refine go_icmp_ne (tgt := 14) dX11_clashTold_9 (by decide) (by unfold inR; omega) (by unfold inR; omega) (fun b9 => ?_) (fun b9 => ?_)
    · skip
      exact absurd rfl b9
    · skip
      refine go_iconst dX11_clashTold_12 ?_
      refine go_retI dX11_clashTold_13 rfl ?_
      refine ⟨?_, hq.2⟩
      unfold mt_val
      rw [if_neg (by omega), hcl]
      show (-1 : Int) = if w = 0 then 1 else -1
      rw [if_neg (by omega)]
  | some t =>
    have hT : mt_clT (mt_sg R m) = t := by unfold mt_clT; rw [hcl]; rfl
    have hv : mt_val (mt_sg R m) w = if w = 0 then 0 else if w = 1 then (t.length : Int) else if w = 2 then ((mt_pick (mt_sg R m) t 0).length : Int) else if w = 3 then ((mt_pick (mt_sg R m) t 1).length : Int) else (mt_ws (mt_sg R m) t).getD 0 0 := by
      unfold mt_val
      rw [if_neg (by omega), hcl]
    refine am_ev (by decide) [some (.ref 0), some (.int (iZ (w)))] rfl (Nat.le_of_ble_eq_true rfl) ?_
    refine go_aload_n dX11_clashTold_0 rfl ?_
    refine go_cvV0 (M2 := mX11_layClash) dX11_clashTold_1 ml_X11_282 mv_X11_layClash sh_0 rfl rfl (Nat.le_of_ble_eq_true rfl) (by decide) (ev_X11_layClash h) (fun σ1 hq => ?_)
    obtain ⟨⟨g1, g2, g3⟩, ho⟩ := hq
    rw [hcl] at g1
    rw [hT] at g2 g3
    have e34 := g1.1
    have hl200 := g1.2.2.2
    have t1 := h.fr ho (by decide) (by decide)
    have e13 : σ1.2.2 13 0 = (mt_ws (mt_sg R m) t).getD 0 0 := (g3 0 (Nat.le_refl _) (Nat.zero_le _)).1
    refine go_aload_n dX11_clashTold_4 rfl ?_
    refine go_geti fl_X11_269 dX11_clashTold_5 sh_0 rfl ?_
    first | (rw [e34]) | (rw [e13]) | skip
    refine go_iconst dX11_clashTold_8 ?_
    refine go_icmp_ne (tgt := 14) dX11_clashTold_9 (by decide) (by unfold inR; omega) (by unfold inR; omega) (fun b9 => ?_) (fun b9 => ?_)
    · skip
      refine go_iload_n dX11_clashTold_14 rfl ?_
      refine go_iconst dX11_clashTold_15 ?_
      refine go_icmp_ne (tgt := 26) dX11_clashTold_16 (by decide) (by unfold inR; omega) (by unfold inR; omega) (fun b16 => ?_) (fun b16 => ?_)
      · skip
        refine go_iload_n dX11_clashTold_26 rfl ?_
        refine go_iconst dX11_clashTold_27 ?_
        refine go_icmp_ne (tgt := 40) dX11_clashTold_28 (by decide) (by unfold inR; omega) (by unfold inR; omega) (fun b28 => ?_) (fun b28 => ?_)
        · skip
          refine go_aload_n dX11_clashTold_40 rfl ?_
          refine go_iload_n dX11_clashTold_41 rfl ?_
          refine go_iconst dX11_clashTold_42 ?_
          refine go_isub dX11_clashTold_43 ?_
          refine go_cvP1 (M2 := mX11_rowMany) dX11_clashTold_44 ml_X11_285 mv_X11_rowMany sh_0 rfl rfl (Nat.le_of_ble_eq_true rfl) (by decide) (ev_X11_rowMany t1 g2 g3 (by omega) (by omega)) ?_
          refine go_retI dX11_clashTold_47 rfl ?_
          refine ⟨?_, ho⟩
          rw [hv]
          first
            | (rw [if_neg (by omega), if_pos (by omega)]; done)
            | (rw [if_neg (by omega), if_neg (by omega), if_neg (by omega), if_neg (by omega)]; done)
            | (have hw : w = 2 ∨ w = 3 := by omega
               rcases hw with rfl | rfl
               · rfl
               · rfl)
        · skip
          refine go_aload_n dX11_clashTold_31 rfl ?_
          refine go_getr fl_X11_46 dX11_clashTold_32 sh_0 rfl ?_
          refine go_iconst dX11_clashTold_35 ?_
          refine go_iaload dX11_clashTold_36 (by first | assumption | rfl) (by first | assumption | exact Nat.le_of_ble_eq_true rfl) (by omega) (by omega) ?_
          first | (rw [e34]) | (rw [e13]) | skip
          refine go_goto (tgt := 47) dX11_clashTold_37 (by decide) ?_
          refine go_retI dX11_clashTold_47 rfl ?_
          refine ⟨?_, ho⟩
          rw [hv]
          first
            | (rw [if_neg (by omega), if_pos (by omega)]; done)
            | (rw [if_neg (by omega), if_neg (by omega), if_neg (by omega), if_neg (by omega)]; done)
            | (have hw : w = 2 ∨ w = 3 := by omega
               rcases hw with rfl | rfl
               · rfl
               · rfl)
      · skip
        refine go_aload_n dX11_clashTold_19 rfl ?_
        refine go_geti fl_X11_269 dX11_clashTold_20 sh_0 rfl ?_
        first | (rw [e34]) | (rw [e13]) | skip
        refine go_goto (tgt := 47) dX11_clashTold_23 (by decide) ?_
        refine go_retI dX11_clashTold_47 rfl ?_
        refine ⟨?_, ho⟩
        rw [hv]
        first
          | (rw [if_neg (by omega), if_pos (by omega)]; done)
          | (rw [if_neg (by omega), if_neg (by omega), if_neg (by omega), if_neg (by omega)]; done)
          | (have hw : w = 2 ∨ w = 3 := by omega
             rcases hw with rfl | rfl
             · rfl
             · rfl)
    · skip
      omega
def CNF : List Nat := [21, 29, 32, 34]
def CNA : List Nat := [12, 13, 14, 16, 17, 18, 19, 20]
theorem cl_iff {S : List (List Int)} (hS : okS S) : mt_cl S = none ↔ ¬ Rem S [] := by
  constructor
  · intro h hr
    obtain ⟨t, ht⟩ := Lst.ex hr
    rw [mt_cl_some hS ht] at h
    exact absurd h (by simp)
  · exact mt_cl_none
theorem ev_X11_clashNow {σ : am_St} {L R : List (List Int)} {m : Nat} {w : Int} (h : tbM σ L R m) (hf : σ.1 0 29 = 0 ∨ σ.1 0 29 = 1) (h0 : 0 ≤ w) (h5 : w ≤ 5) : am_Ev SH mX11_clashNow 9 [.ref 0, .int (iZ w)] σ (am_rI (fun x σ2 => x = mt_val (mt_sg R m) w ∧ (σ2.1 0 29 = 0 ∨ σ2.1 0 29 = 1) ∧ fr CNF CNA σ σ2)) := by
  have hS : okS (mt_sg R m) := okS_sg h.2.2.2.2.2.2.2.2 h.2.2.2.2.2.1 m
  rcases (by omega : w = 0 ∨ w = 5 ∨ (1 ≤ w ∧ w ≤ 4)) with rfl | rfl | ⟨h1, h4⟩
  · have tail : ∀ (x : Int) (σ1 : am_St), (((x = 1 ∧ ¬ Rem (mt_sg R m) []) ∨ (x = 0 ∧ Rem (mt_sg R m) [])) ∧ (σ1.1 0 29 = 0 ∨ σ1.1 0 29 = 1) ∧ fr [29] [16] σ σ1) → am_Go SH mX11_clashNow 9 (am_rI (fun x σ2 => x = mt_val (mt_sg R m) 0 ∧ (σ2.1 0 29 = 0 ∨ σ2.1 0 29 = 1) ∧ fr CNF CNA σ σ2)) 8 [some (.ref 0), some (.int (iZ 0))] [.int (iZ x)] σ1 := by
      rintro x σ1 ⟨⟨rfl, hr⟩ | ⟨rfl, hr⟩, hf1, ho⟩
      · have e : mt_val (mt_sg R m) 0 = 1 := by unfold mt_val; rw [if_neg (by decide), (cl_iff hS).mpr hr]; rfl
        refine go_if_eq (tgt := 15) dX11_clashNow_8 (by decide) (by unfold inR; omega) (fun b8 => ?_) (fun b8 => ?_)
        · skip
          exact absurd b8 (by decide)
        · skip
          refine go_iconst dX11_clashNow_11 ?_
          refine go_goto (tgt := 36) dX11_clashNow_12 (by decide) ?_
          refine go_retI dX11_clashNow_36 rfl ?_
          exact ⟨e.symm, hf1, ho.wk (by decide) (by decide)⟩
      · have e : mt_val (mt_sg R m) 0 = 0 := by
          unfold mt_val
          rw [if_neg (by decide)]
          cases hcl : mt_cl (mt_sg R m) with
          | none => exact absurd hr ((cl_iff hS).mp hcl)
          | some t => rfl
        refine go_if_eq (tgt := 15) dX11_clashNow_8 (by decide) (by unfold inR; omega) (fun b8 => ?_) (fun b8 => ?_)
        · skip
          refine go_iconst dX11_clashNow_15 ?_
          refine go_goto (tgt := 36) dX11_clashNow_16 (by decide) ?_
          refine go_retI dX11_clashNow_36 rfl ?_
          exact ⟨e.symm, hf1, ho.wk (by decide) (by decide)⟩
        · skip
          exact absurd rfl b8
    refine am_ev (by decide) [some (.ref 0), some (.int (iZ (0)))] rfl (Nat.le_of_ble_eq_true rfl) ?_
    refine go_iload_n dX11_clashNow_0 rfl ?_
    refine go_if_ne (tgt := 19) dX11_clashNow_1 (by decide) (by unfold inR; omega) (fun b1 => ?_) (fun b1 => ?_)
    · skip
      exact absurd rfl b1
    · skip
      refine go_aload_n dX11_clashNow_4 rfl ?_
      refine go_cvI0 (M2 := mX11_isClean) dX11_clashNow_5 ml_X11_288 mv_X11_isClean sh_0 rfl rfl (Nat.le_of_ble_eq_true rfl) (by decide) (ev_X11_isClean h hf) (fun x σ1 hq => ?_)
      exact tail x σ1 hq
  · have e : mt_val (mt_sg R m) 5 = ((mt_rems (mt_sg R m)).length : Int) := by unfold mt_val; rw [if_pos rfl]
    refine am_ev (by decide) [some (.ref 0), some (.int (iZ (5)))] rfl (Nat.le_of_ble_eq_true rfl) ?_
    refine go_iload_n dX11_clashNow_0 rfl ?_
    refine go_if_ne (tgt := 19) dX11_clashNow_1 (by decide) (by unfold inR; omega) (fun b1 => ?_) (fun b1 => ?_)
    · skip
      refine go_iload_n dX11_clashNow_19 rfl ?_
      refine go_iconst dX11_clashNow_20 ?_
      refine go_icmp_ne (tgt := 31) dX11_clashNow_21 (by decide) (by unfold inR; omega) (by unfold inR; omega) (fun b21 => ?_) (fun b21 => ?_)
      · skip
        exact absurd rfl b21
      · skip
        refine go_aload_n dX11_clashNow_24 rfl ?_
        refine go_cvI0 (M2 := mX11_aheadsMany) dX11_clashNow_25 ml_X11_291 mv_X11_aheadsMany sh_0 rfl rfl (Nat.le_of_ble_eq_true rfl) (by decide) (ev_X11_aheadsMany h hf) (fun x σ1 hq => ?_)
        refine go_goto (tgt := 36) dX11_clashNow_28 (by decide) ?_
        refine go_retI dX11_clashNow_36 rfl ?_
        exact ⟨by rw [e]; exact hq.1, hq.2.2.1, hq.2.2.2.wk (by decide) (by decide)⟩
    · skip
      exact absurd b1 (by decide)
  · skip
    refine am_ev (by decide) [some (.ref 0), some (.int (iZ (w)))] rfl (Nat.le_of_ble_eq_true rfl) ?_
    refine go_iload_n dX11_clashNow_0 rfl ?_
    refine go_if_ne (tgt := 19) dX11_clashNow_1 (by decide) (by unfold inR; omega) (fun b1 => ?_) (fun b1 => ?_)
    · skip
      refine go_iload_n dX11_clashNow_19 rfl ?_
      refine go_iconst dX11_clashNow_20 ?_
      refine go_icmp_ne (tgt := 31) dX11_clashNow_21 (by decide) (by unfold inR; omega) (by unfold inR; omega) (fun b21 => ?_) (fun b21 => ?_)
      · skip
        refine go_aload_n dX11_clashNow_31 rfl ?_
        refine go_iload_n dX11_clashNow_32 rfl ?_
        refine go_cvI1 (M2 := mX11_clashTold) dX11_clashNow_33 ml_X11_294 mv_X11_clashTold sh_0 rfl rfl (Nat.le_of_ble_eq_true rfl) (by decide) (ev_X11_clashTold h h1 h4) (fun x σ1 hq => ?_)
        refine go_retI dX11_clashNow_36 rfl ?_
        exact ⟨hq.1, by rw [hq.2.f 29 (by decide)]; exact hf, hq.2.wk (by decide) (by decide)⟩
      · skip
        omega
    · skip
      omega
theorem ev_X11_clash {σ : am_St} {s : mS} {w : Int} (h : RepM σ s) (hw : inR w) : am_Ev SH mX11_clash 10 [.ref 0, .int (iZ w)] σ (am_rI (fun x σ2 => x = m_clash s w ∧ RepM σ2 s ∧ am_off XM σ σ2)) := by
  by_cases hin : 0 ≤ w ∧ w ≤ 5
  · have e : m_clash s w = mt_val (mt_sg s.2.1 s.2.2.1) w := by unfold m_clash; rw [if_neg (by omega)]
    refine am_ev (by decide) [some (.ref 0), some (.int (iZ (w)))] rfl (Nat.le_of_ble_eq_true rfl) ?_
    refine go_iload_n dX11_clash_0 rfl ?_
    refine go_iconst dX11_clash_1 ?_
    refine go_iconst dX11_clash_2 ?_
    refine go_csP3 (M2 := mX11_within) dX11_clash_3 ml_X11_71 ms_X11_within (Nat.le_of_ble_eq_true rfl) (by decide) (ev_X11_within hw (by unfold inR; omega) (by unfold inR; omega)) ?_
    rw [if_pos hin]
    refine go_if_eq (tgt := 17) dX11_clash_6 (by decide) (by unfold inR; omega) (fun b6 => ?_) (fun b6 => ?_)
    · skip
      exact absurd b6 (by decide)
    · skip
      refine go_aload_n dX11_clash_9 rfl ?_
      refine go_iload_n dX11_clash_10 rfl ?_
      refine go_cvI1 (M2 := mX11_clashNow) dX11_clash_11 ml_X11_297 mv_X11_clashNow sh_0 rfl rfl (Nat.le_of_ble_eq_true rfl) (by decide) (ev_X11_clashNow h.1 h.2.2.2.2.2.2.2 hin.1 hin.2) (fun x σ1 hq => ?_)
      refine go_goto (tgt := 19) dX11_clash_14 (by decide) ?_
      refine go_retI dX11_clash_19 rfl ?_
      exact ⟨by rw [e]; exact hq.1, h.fr29 hq.2.2 (by decide) (by decide) hq.2.1, hq.2.2.off (by decide)⟩
  · have e : m_clash s w = -102 := by unfold m_clash; rw [if_pos (by omega)]
    refine am_ev (by decide) [some (.ref 0), some (.int (iZ (w)))] rfl (Nat.le_of_ble_eq_true rfl) ?_
    refine go_iload_n dX11_clash_0 rfl ?_
    refine go_iconst dX11_clash_1 ?_
    refine go_iconst dX11_clash_2 ?_
    refine go_csP3 (M2 := mX11_within) dX11_clash_3 ml_X11_71 ms_X11_within (Nat.le_of_ble_eq_true rfl) (by decide) (ev_X11_within hw (by unfold inR; omega) (by unfold inR; omega)) ?_
    rw [if_neg hin]
    refine go_if_eq (tgt := 17) dX11_clash_6 (by decide) (by unfold inR; omega) (fun b6 => ?_) (fun b6 => ?_)
    · skip
      refine go_bipush dX11_clash_17 rfl ?_
      refine go_retI dX11_clash_19 rfl ?_
      exact ⟨e.symm, h, am_off.rf⟩
    · skip
      exact absurd rfl b6
theorem ev_X11_clashAt {σ : am_St} {s : mS} {p : Int} (h : RepM σ s) (hp : inR p) : am_Ev SH mX11_clashAt 8 [.ref 0, .int (iZ p)] σ (am_rI (fun x σ2 => x = m_clashAt s p ∧ RepM σ2 s ∧ am_off XM σ σ2)) := by
  cases hcl : mt_cl (mt_sg s.2.1 s.2.2.1) with
  | none =>
    have e : m_clashAt s p = -101 := by
      unfold m_clashAt mt_clT ln_at
      rw [hcl]
      rw [if_pos (by simp only [Option.getD_none, List.length_nil]; omega)]
    refine am_ev (by decide) [some (.ref 0), some (.int (iZ (p)))] rfl (Nat.le_of_ble_eq_true rfl) ?_
    refine go_aload_n dX11_clashAt_0 rfl ?_
    refine go_cvV0 (M2 := mX11_layClash) dX11_clashAt_1 ml_X11_282 mv_X11_layClash sh_0 rfl rfl (Nat.le_of_ble_eq_true rfl) (by decide) (ev_X11_layClash h.1) (fun σ1 hq => ?_)
    have e34 : σ1.1 0 34 = -1 := by have := hq.1.1; rw [hcl] at this; exact this
    refine go_iload_n dX11_clashAt_4 rfl ?_
    refine go_iconst dX11_clashAt_5 ?_
    refine go_aload_n dX11_clashAt_6 rfl ?_
    refine go_geti fl_X11_269 dX11_clashAt_7 sh_0 rfl ?_
    first | (rw [e34]) | skip
    refine go_iconst dX11_clashAt_10 ?_
    refine go_isub dX11_clashAt_11 ?_
    refine go_csP3 (M2 := mX11_within) dX11_clashAt_12 ml_X11_71 ms_X11_within (Nat.le_of_ble_eq_true rfl) (by decide) (ev_X11_within hp (by unfold inR; omega) (by unfold inR; omega)) ?_
    rw [if_neg (by omega)]
    refine go_if_eq (tgt := 27) dX11_clashAt_15 (by decide) (by unfold inR; omega) (fun b15 => ?_) (fun b15 => ?_)
    · skip
      refine go_bipush dX11_clashAt_27 rfl ?_
      refine go_retI dX11_clashAt_29 rfl ?_
      exact ⟨e.symm, h.fr hq.2 (by decide) (by decide), hq.2.off (by decide)⟩
    · skip
      exact absurd rfl b15
  | some t =>
    have e : m_clashAt s p = ln_at t p := by unfold m_clashAt mt_clT; rw [hcl]; rfl
    by_cases hin : 0 ≤ p ∧ p < (t.length : Int)
    · obtain ⟨j, rfl⟩ := Int.eq_ofNat_of_zero_le hin.1
      refine am_ev (by decide) [some (.ref 0), some (.int (iZ ((j : Int))))] rfl (Nat.le_of_ble_eq_true rfl) ?_
      refine go_aload_n dX11_clashAt_0 rfl ?_
      refine go_cvV0 (M2 := mX11_layClash) dX11_clashAt_1 ml_X11_282 mv_X11_layClash sh_0 rfl rfl (Nat.le_of_ble_eq_true rfl) (by decide) (ev_X11_layClash h.1) (fun σ1 hq => ?_)
      have g1 := hq.1.1
      rw [hcl] at g1
      have e34 := g1.1
      have hl := g1.2.2.2
      have a20 := g1.2.1 j (by omega)
      refine go_iload_n dX11_clashAt_4 rfl ?_
      refine go_iconst dX11_clashAt_5 ?_
      refine go_aload_n dX11_clashAt_6 rfl ?_
      refine go_geti fl_X11_269 dX11_clashAt_7 sh_0 rfl ?_
      first | (rw [e34]) | (rw [a20]) | skip
      refine go_iconst dX11_clashAt_10 ?_
      refine go_isub dX11_clashAt_11 ?_
      refine go_csP3 (M2 := mX11_within) dX11_clashAt_12 ml_X11_71 ms_X11_within (Nat.le_of_ble_eq_true rfl) (by decide) (ev_X11_within hp (by unfold inR; omega) (by unfold inR; omega)) ?_
      rw [if_pos (by omega)]
      refine go_if_eq (tgt := 27) dX11_clashAt_15 (by decide) (by unfold inR; omega) (fun b15 => ?_) (fun b15 => ?_)
      · skip
        exact absurd b15 (by decide)
      · skip
        refine go_aload_n dX11_clashAt_18 rfl ?_
        refine go_getr fl_X11_68 dX11_clashAt_19 sh_0 rfl ?_
        refine go_iload_n dX11_clashAt_22 rfl ?_
        refine go_iaload dX11_clashAt_23 (by first | assumption | rfl) (by first | assumption | exact Nat.le_of_ble_eq_true rfl) (by omega) (by omega) ?_
        first | (rw [e34]) | (rw [a20]) | skip
        refine go_goto (tgt := 29) dX11_clashAt_24 (by decide) ?_
        refine go_retI dX11_clashAt_29 rfl ?_
        exact ⟨e.symm, h.fr hq.2 (by decide) (by decide), hq.2.off (by decide)⟩
    · have e2 : ln_at t p = -101 := by unfold ln_at; rw [if_pos (by omega)]
      refine am_ev (by decide) [some (.ref 0), some (.int (iZ (p)))] rfl (Nat.le_of_ble_eq_true rfl) ?_
      refine go_aload_n dX11_clashAt_0 rfl ?_
      refine go_cvV0 (M2 := mX11_layClash) dX11_clashAt_1 ml_X11_282 mv_X11_layClash sh_0 rfl rfl (Nat.le_of_ble_eq_true rfl) (by decide) (ev_X11_layClash h.1) (fun σ1 hq => ?_)
      have g1 := hq.1.1
      rw [hcl] at g1
      have e34 := g1.1
      have hl := g1.2.2.2
      refine go_iload_n dX11_clashAt_4 rfl ?_
      refine go_iconst dX11_clashAt_5 ?_
      refine go_aload_n dX11_clashAt_6 rfl ?_
      refine go_geti fl_X11_269 dX11_clashAt_7 sh_0 rfl ?_
      first | (rw [e34]) | skip
      refine go_iconst dX11_clashAt_10 ?_
      refine go_isub dX11_clashAt_11 ?_
      refine go_csP3 (M2 := mX11_within) dX11_clashAt_12 ml_X11_71 ms_X11_within (Nat.le_of_ble_eq_true rfl) (by decide) (ev_X11_within hp (by unfold inR; omega) (by unfold inR; omega)) ?_
      rw [if_neg (by omega)]
      refine go_if_eq (tgt := 27) dX11_clashAt_15 (by decide) (by unfold inR; omega) (fun b15 => ?_) (fun b15 => ?_)
      · skip
        refine go_bipush dX11_clashAt_27 rfl ?_
        refine go_retI dX11_clashAt_29 rfl ?_
        exact ⟨by rw [e, e2], h.fr hq.2 (by decide) (by decide), hq.2.off (by decide)⟩
      · skip
        exact absurd rfl b15
theorem ev_X11_clashingNow {σ : am_St} {s : mS} {w p : Int} (h : RepM σ s) (h0 : 0 ≤ w) (h1 : w ≤ 1) (hp : inR p) : am_Ev SH mX11_clashingNow 8 [.ref 0, .int (iZ w), .int (iZ p)] σ (am_rI (fun x σ2 => x = ln_at (mt_one (mt_sg s.2.1 s.2.2.1) w) p ∧ RepM σ2 s ∧ am_off XM σ σ2)) := by
  have h8 := h.1.S8
  cases hcl : mt_cl (mt_sg s.2.1 s.2.2.1) with
  | none =>
    have e : ln_at (mt_one (mt_sg s.2.1 s.2.2.1) w) p = -101 := by
      unfold mt_one
      rw [hcl]
      unfold ln_at
      rw [if_pos (by simp only [List.length_nil]; omega)]
    refine am_ev (by decide) [some (.ref 0), some (.int (iZ (w))), some (.int (iZ (p))), none] rfl (Nat.le_of_ble_eq_true rfl) ?_
    refine go_aload_n dX11_clashingNow_0 rfl ?_
    refine go_cvV0 (M2 := mX11_layClash) dX11_clashingNow_1 ml_X11_282 mv_X11_layClash sh_0 rfl rfl (Nat.le_of_ble_eq_true rfl) (by decide) (ev_X11_layClash h.1) (fun σ1 hq => ?_)
    have e34 : σ1.1 0 34 = -1 := by have := hq.1.1; rw [hcl] at this; exact this
    refine go_aload_n dX11_clashingNow_4 rfl ?_
    refine go_geti fl_X11_269 dX11_clashingNow_5 sh_0 rfl ?_
    first | (rw [e34]) | skip
    refine go_iconst dX11_clashingNow_8 ?_
    refine go_icmp_ne (tgt := 16) dX11_clashingNow_9 (by decide) (by unfold inR; omega) (by unfold inR; omega) (fun b9 => ?_) (fun b9 => ?_)
    · skip
      exact absurd rfl b9
    · skip
      refine go_iconst dX11_clashingNow_12 ?_
      refine go_goto (tgt := 22) dX11_clashingNow_13 (by decide) ?_
      refine go_ist3 dX11_clashingNow_22 (Nat.le_of_ble_eq_true rfl) rfl ?_
      refine go_iload_n dX11_clashingNow_23 rfl ?_
      refine go_iconst dX11_clashingNow_24 ?_
      refine go_icmp_ne (tgt := 33) dX11_clashingNow_25 (by decide) (by unfold inR; omega) (by unfold inR; omega) (fun b25 => ?_) (fun b25 => ?_)
      · skip
        exact absurd rfl b25
      · skip
        refine go_bipush dX11_clashingNow_28 rfl ?_
        refine go_goto (tgt := 34) dX11_clashingNow_30 (by decide) ?_
        refine go_retI dX11_clashingNow_34 rfl ?_
        exact ⟨e.symm, h.fr hq.2 (by decide) (by decide), hq.2.off (by decide)⟩
  | some t =>
    have e : mt_one (mt_sg s.2.1 s.2.2.1) w = mt_pick (mt_sg s.2.1 s.2.2.1) t w := by unfold mt_one; rw [hcl]
    have hT : mt_clT (mt_sg s.2.1 s.2.2.1) = t := by unfold mt_clT; rw [hcl]; rfl
    have hbd := mt_pick_bd (mt_sg s.2.1 s.2.2.1) t w
    have hR : inR (rowAt (mt_pick (mt_sg s.2.1 s.2.2.1) t w) p) := rowAt_R (n := ((mt_sg s.2.1 s.2.2.1).length : Int)) (by unfold inR; omega) hbd.2 p
    have hln := rowAt_ln (fun r hr => (hbd.2 r hr).1) p
    refine am_ev (by decide) [some (.ref 0), some (.int (iZ (w))), some (.int (iZ (p))), none] rfl (Nat.le_of_ble_eq_true rfl) ?_
    refine go_aload_n dX11_clashingNow_0 rfl ?_
    refine go_cvV0 (M2 := mX11_layClash) dX11_clashingNow_1 ml_X11_282 mv_X11_layClash sh_0 rfl rfl (Nat.le_of_ble_eq_true rfl) (by decide) (ev_X11_layClash h.1) (fun σ1 hq => ?_)
    obtain ⟨⟨g1, g2, g3⟩, ho⟩ := hq
    rw [hcl] at g1
    rw [hT] at g2 g3
    have e34 := g1.1
    have hl200 := g1.2.2.2
    have t1 := h.1.fr ho (by decide) (by decide)
    refine go_aload_n dX11_clashingNow_4 rfl ?_
    refine go_geti fl_X11_269 dX11_clashingNow_5 sh_0 rfl ?_
    first | (rw [e34]) | skip
    refine go_iconst dX11_clashingNow_8 ?_
    refine go_icmp_ne (tgt := 16) dX11_clashingNow_9 (by decide) (by unfold inR; omega) (by unfold inR; omega) (fun b9 => ?_) (fun b9 => ?_)
    · skip
      refine go_aload_n dX11_clashingNow_16 rfl ?_
      refine go_iload_n dX11_clashingNow_17 rfl ?_
      refine go_iload_n dX11_clashingNow_18 rfl ?_
      refine go_cvP2 (M2 := mX11_ruleIn) dX11_clashingNow_19 ml_X11_201 mv_X11_ruleIn sh_0 rfl rfl (Nat.le_of_ble_eq_true rfl) (by decide) (ev_X11_ruleIn t1 g2 g3 h0 h1 hp) ?_
      refine go_ist3 dX11_clashingNow_22 (Nat.le_of_ble_eq_true rfl) rfl ?_
      refine go_iload_n dX11_clashingNow_23 rfl ?_
      refine go_iconst dX11_clashingNow_24 ?_
      refine go_icmp_ne (tgt := 33) dX11_clashingNow_25 (by decide) hR (by unfold inR; omega) (fun b25 => ?_) (fun b25 => ?_)
      · skip
        refine go_iload_n dX11_clashingNow_33 rfl ?_
        refine go_retI dX11_clashingNow_34 rfl ?_
        refine ⟨?_, h.fr ho (by decide) (by decide), ho.off (by decide)⟩
        rw [e, ← hln]
        first | (rw [if_pos b25]; done) | (rw [if_neg b25]; done)
      · skip
        refine go_bipush dX11_clashingNow_28 rfl ?_
        refine go_goto (tgt := 34) dX11_clashingNow_30 (by decide) ?_
        refine go_retI dX11_clashingNow_34 rfl ?_
        refine ⟨?_, h.fr ho (by decide) (by decide), ho.off (by decide)⟩
        rw [e, ← hln]
        first | (rw [if_pos b25]; done) | (rw [if_neg b25]; done)
    · skip
      omega
theorem ev_X11_clashing {σ : am_St} {s : mS} {w p : Int} (h : RepM σ s) (hw : inR w) (hp : inR p) : am_Ev SH mX11_clashing 9 [.ref 0, .int (iZ w), .int (iZ p)] σ (am_rI (fun x σ2 => x = m_clashing s w p ∧ RepM σ2 s ∧ am_off XM σ σ2)) := by
  by_cases hin : 0 ≤ w ∧ w ≤ 1
  · have e : m_clashing s w p = ln_at (mt_one (mt_sg s.2.1 s.2.2.1) w) p := by unfold m_clashing; rw [if_neg (by omega)]
    refine am_ev (by decide) [some (.ref 0), some (.int (iZ (w))), some (.int (iZ (p)))] rfl (Nat.le_of_ble_eq_true rfl) ?_
    refine go_iload_n dX11_clashing_0 rfl ?_
    refine go_iconst dX11_clashing_1 ?_
    refine go_iconst dX11_clashing_2 ?_
    refine go_csP3 (M2 := mX11_within) dX11_clashing_3 ml_X11_71 ms_X11_within (Nat.le_of_ble_eq_true rfl) (by decide) (ev_X11_within hw (by unfold inR; omega) (by unfold inR; omega)) ?_
    rw [if_pos hin]
    refine go_if_eq (tgt := 18) dX11_clashing_6 (by decide) (by unfold inR; omega) (fun b6 => ?_) (fun b6 => ?_)
    · skip
      exact absurd b6 (by decide)
    · skip
      refine go_aload_n dX11_clashing_9 rfl ?_
      refine go_iload_n dX11_clashing_10 rfl ?_
      refine go_iload_n dX11_clashing_11 rfl ?_
      refine go_cvI2 (M2 := mX11_clashingNow) dX11_clashing_12 ml_X11_300 mv_X11_clashingNow sh_0 rfl rfl (Nat.le_of_ble_eq_true rfl) (by decide) (ev_X11_clashingNow h hin.1 hin.2 hp) (fun x σ1 hq => ?_)
      refine go_goto (tgt := 20) dX11_clashing_15 (by decide) ?_
      refine go_retI dX11_clashing_20 rfl ?_
      exact ⟨by rw [e]; exact hq.1, hq.2⟩
  · have e : m_clashing s w p = -102 := by unfold m_clashing; rw [if_pos (by omega)]
    refine am_ev (by decide) [some (.ref 0), some (.int (iZ (w))), some (.int (iZ (p)))] rfl (Nat.le_of_ble_eq_true rfl) ?_
    refine go_iload_n dX11_clashing_0 rfl ?_
    refine go_iconst dX11_clashing_1 ?_
    refine go_iconst dX11_clashing_2 ?_
    refine go_csP3 (M2 := mX11_within) dX11_clashing_3 ml_X11_71 ms_X11_within (Nat.le_of_ble_eq_true rfl) (by decide) (ev_X11_within hw (by unfold inR; omega) (by unfold inR; omega)) ?_
    rw [if_neg hin]
    refine go_if_eq (tgt := 18) dX11_clashing_6 (by decide) (by unfold inR; omega) (fun b6 => ?_) (fun b6 => ?_)
    · skip
      refine go_bipush dX11_clashing_18 rfl ?_
      refine go_retI dX11_clashing_20 rfl ?_
      exact ⟨e.symm, h, am_off.rf⟩
    · skip
      exact absurd rfl b6
