/-! ===== the reference: takes, read, fault, table ===== -/
def RDF : List Nat := [14]
def RDA : List Nat := [7, 8, 9, 10]
def tkM (σ : am_St) (s : rd_S) (c : Int) (x : Int) (σ2 : am_St) : Prop := (x = 0 ∧ rd_take s c = none ∧ σ2 = σ) ∨ (x = 1 ∧ ∃ s', rd_take s c = some s' ∧ rdM σ2 s' ∧ fr RDF RDA σ σ2)
theorem len0 {l : List Int} : (l.length : Int) = 0 ↔ l = [] := by cases l <;> simp; omega
theorem ev_X11_takesLeft {σ : am_St} {s : rd_S} {c : Int} (h : rdM σ s) (hc : 97 ≤ c ∧ c ≤ 122) : am_Ev SH mX11_takesLeft 1 [.ref 0, .int (iZ c)] σ (am_rI (tkM σ s c)) := by
  have hcu := h.cur
  obtain ⟨h1, h2, h3, hok⟩ := h
  have hn := hok.2.1
  have hll := hok.2.2.2.2.2.1
  have hlr := hok.2.2.2.2.2.2.2.1
  have ek : rd_take s c = if s.2.2.2 = [] ∧ s.2.2.1.length < 3 then some (s.1, s.2.1, s.2.2.1 ++ [c], s.2.2.2) else none := by unfold rd_take; rw [if_pos hc]
  have e2 : (am_sa σ 9 (3 * (s.1.length : Int) + (s.2.2.1.length : Int)) c).2.2 7 (s.1.length : Int) = (s.2.2.1.length : Int) := hcu.1
  have tail : ∀ y : Int, (y = 0 ∧ rd_take s c = none) ∨ (y = 1 ∧ s.2.2.2 = [] ∧ s.2.2.1.length < 3) → am_Go SH mX11_takesLeft 1 (am_rI (tkM σ s c)) 29 [some (.ref 0), some (.int (iZ c)), some (.int (iZ (s.1.length : Int))), none] [.int (iZ y)] σ := by
    intro y hy
    have hy01 : y = 0 ∨ y = 1 := by rcases hy with z | z; exact Or.inl z.1; exact Or.inr z.1
    refine go_ist3 dX11_takesLeft_29 (Nat.le_of_ble_eq_true rfl) rfl ?_
    refine go_iload_n dX11_takesLeft_30 rfl ?_
    refine go_if_eq (tgt := 60) dX11_takesLeft_31 (by decide) (by unfold inR; omega) (fun b31 => ?_) (fun b31 => ?_)
    · skip
      refine go_iload_n dX11_takesLeft_60 rfl ?_
      refine go_retZ dX11_takesLeft_61 rfl hy01 ?_
      first
        | (refine Or.inr ⟨hz.1, _, by rw [ek, if_pos hz.2], ?_⟩; skip)
        | exact Or.inl ⟨b31, by rcases hy with z | z; exact z.2; exact absurd b31 (by omega), rfl⟩
      all_goals refine ⟨⟨h1, wdA_app h2 (fun x hx => (hok.2.2.1 x hx).2.2) hz.2.2 (by decide) rfl, ?_, rd_take_ok hok (by rw [ek, if_pos hz.2])⟩, (fr_sa (by decide)).tr (fr_sa (by decide))⟩
      all_goals exact (h3.fr (fs := []) (as := [9]) (fr_sa (by decide)) (by decide) (by decide)).fr (fs := []) (as := [7]) (fr_sa (by decide)) (by decide) (by decide)
    · skip
      have hz : y = 1 ∧ s.2.2.2 = [] ∧ s.2.2.1.length < 3 := by rcases hy with z | z; exact absurd z.1 b31; exact z
      refine go_aload_n dX11_takesLeft_34 rfl ?_
      refine go_getr fl_X11_34 dX11_takesLeft_35 sh_0 rfl ?_
      refine go_iconst dX11_takesLeft_38 ?_
      refine go_iload_n dX11_takesLeft_39 rfl ?_
      refine go_imul dX11_takesLeft_40 ?_
      refine go_aload_n dX11_takesLeft_41 rfl ?_
      refine go_getr fl_X11_28 dX11_takesLeft_42 sh_0 rfl ?_
      refine go_iload_n dX11_takesLeft_45 rfl ?_
      refine go_iaload dX11_takesLeft_46 (by first | assumption | rfl) (by first | assumption | exact Nat.le_of_ble_eq_true rfl) (by omega) (by omega) ?_
      first | (rw [hcu.1]) | (rw [e2]) | skip
      refine go_iadd dX11_takesLeft_47 ?_
      refine go_iload_n dX11_takesLeft_48 rfl ?_
      refine go_iastore dX11_takesLeft_49 (by first | assumption | rfl) (by first | assumption | exact Nat.le_of_ble_eq_true rfl) (by omega) (by omega) ?_
      refine go_aload_n dX11_takesLeft_50 rfl ?_
      refine go_getr fl_X11_28 dX11_takesLeft_51 sh_0 rfl ?_
      refine go_iload_n dX11_takesLeft_54 rfl ?_
      refine go_dup2 dX11_takesLeft_55 rfl rfl ?_
      refine go_iaload dX11_takesLeft_56 (by first | assumption | rfl) (by first | assumption | exact Nat.le_of_ble_eq_true rfl) (by omega) (by omega) ?_
      first | (rw [hcu.1]) | (rw [e2]) | skip
      refine go_iconst dX11_takesLeft_57 ?_
      refine go_iadd dX11_takesLeft_58 ?_
      refine go_iastore dX11_takesLeft_59 (by first | assumption | rfl) (by first | assumption | exact Nat.le_of_ble_eq_true rfl) (by omega) (by omega) ?_
      refine go_iload_n dX11_takesLeft_60 rfl ?_
      refine go_retZ dX11_takesLeft_61 rfl hy01 ?_
      first
        | (refine Or.inr ⟨hz.1, _, by rw [ek, if_pos hz.2], ?_⟩; skip)
        | exact Or.inl ⟨b31, by rcases hy with z | z; exact z.2; exact absurd b31 (by omega), rfl⟩
      all_goals refine ⟨⟨h1, wdA_app h2 (fun x hx => (hok.2.2.1 x hx).2.2) hz.2.2 (by decide) rfl, ?_, rd_take_ok hok (by rw [ek, if_pos hz.2])⟩, (fr_sa (by decide)).tr (fr_sa (by decide))⟩
      all_goals exact (h3.fr (fs := []) (as := [9]) (fr_sa (by decide)) (by decide) (by decide)).fr (fs := []) (as := [7]) (fr_sa (by decide)) (by decide) (by decide)
  refine am_ev (by decide) [some (.ref 0), some (.int (iZ (c))), none, none] rfl (Nat.le_of_ble_eq_true rfl) ?_
  refine go_aload_n dX11_takesLeft_0 rfl ?_
  refine go_geti fl_X11_79 dX11_takesLeft_1 sh_0 rfl ?_
  first | (rw [h1]) | (rw [hcu.1]) | (rw [hcu.2]) | skip
  refine go_ist2 dX11_takesLeft_4 (Nat.le_of_ble_eq_true rfl) rfl ?_
  refine go_aload_n dX11_takesLeft_5 rfl ?_
  refine go_getr fl_X11_31 dX11_takesLeft_6 sh_0 rfl ?_
  refine go_iload_n dX11_takesLeft_9 rfl ?_
  refine go_iaload dX11_takesLeft_10 (by first | assumption | rfl) (by first | assumption | exact Nat.le_of_ble_eq_true rfl) (by omega) (by omega) ?_
  first | (rw [h1]) | (rw [hcu.1]) | (rw [hcu.2]) | skip
  refine go_if_ne (tgt := 28) dX11_takesLeft_11 (by decide) (by unfold inR; omega) (fun b11 => ?_) (fun b11 => ?_)
  · skip
    refine go_iconst dX11_takesLeft_28 ?_
    refine tail _ ?_
    first
      | exact Or.inr ⟨rfl, len0.mp b11, by omega⟩
      | (refine Or.inl ⟨rfl, ?_⟩; rw [ek, if_neg]; intro z; first | exact b11 (len0.mpr z.1) | omega)
  · skip
    refine go_aload_n dX11_takesLeft_14 rfl ?_
    refine go_getr fl_X11_28 dX11_takesLeft_15 sh_0 rfl ?_
    refine go_iload_n dX11_takesLeft_18 rfl ?_
    refine go_iaload dX11_takesLeft_19 (by first | assumption | rfl) (by first | assumption | exact Nat.le_of_ble_eq_true rfl) (by omega) (by omega) ?_
    first | (rw [h1]) | (rw [hcu.1]) | (rw [hcu.2]) | skip
    refine go_iconst dX11_takesLeft_20 ?_
    refine go_icmp_ge (tgt := 28) dX11_takesLeft_21 (by decide) (by unfold inR; omega) (by unfold inR; omega) (fun b21 => ?_) (fun b21 => ?_)
    · skip
      refine go_iconst dX11_takesLeft_28 ?_
      refine tail _ ?_
      first
        | exact Or.inr ⟨rfl, len0.mp b11, by omega⟩
        | (refine Or.inl ⟨rfl, ?_⟩; rw [ek, if_neg]; intro z; first | exact b11 (len0.mpr z.1) | omega)
    · skip
      refine go_iconst dX11_takesLeft_24 ?_
      refine go_goto (tgt := 29) dX11_takesLeft_25 (by decide) ?_
      refine tail _ ?_
      first
        | exact Or.inr ⟨rfl, len0.mp b11, by omega⟩
        | (refine Or.inl ⟨rfl, ?_⟩; rw [ek, if_neg]; intro z; first | exact b11 (len0.mpr z.1) | omega)
theorem ev_X11_takesRight {σ : am_St} {s : rd_S} {c : Int} (h : rdM σ s) (hc : 65 ≤ c ∧ c ≤ 90) : am_Ev SH mX11_takesRight 1 [.ref 0, .int (iZ c)] σ (am_rI (tkM σ s c)) := by
  have hcu := h.cur
  have hall := h
  obtain ⟨h1, h2, h3, hok⟩ := h
  have hn := hok.2.1
  have hll := hok.2.2.2.2.2.1
  have hlr := hok.2.2.2.2.2.2.2.1
  have ek : rd_take s c = if s.2.2.1 ≠ [] ∧ s.2.2.2.length < 3 ∧ (s.2.2.2 ≠ [] ∨ s.2.2.1 ∉ s.1) then some (s.1, s.2.1, s.2.2.1, s.2.2.2 ++ [c]) else none := by unfold rd_take; rw [if_neg (by omega), if_pos hc]
  have e2 : (am_sa σ 10 (3 * (s.1.length : Int) + (s.2.2.2.length : Int)) c).2.2 8 (s.1.length : Int) = (s.2.2.2.length : Int) := hcu.2
  have tail : ∀ y : Int, (y = 0 ∧ rd_take s c = none) ∨ (y = 1 ∧ (s.2.2.1 ≠ [] ∧ s.2.2.2.length < 3 ∧ (s.2.2.2 ≠ [] ∨ s.2.2.1 ∉ s.1))) → am_Go SH mX11_takesRight 1 (am_rI (tkM σ s c)) 45 [some (.ref 0), some (.int (iZ c)), some (.int (iZ (s.1.length : Int))), none] [.int (iZ y)] σ := by
    intro y hy
    have hy01 : y = 0 ∨ y = 1 := by rcases hy with z | z; exact Or.inl z.1; exact Or.inr z.1
    refine go_ist3 dX11_takesRight_45 (Nat.le_of_ble_eq_true rfl) rfl ?_
    refine go_iload_n dX11_takesRight_46 rfl ?_
    refine go_if_eq (tgt := 76) dX11_takesRight_47 (by decide) (by unfold inR; omega) (fun b47 => ?_) (fun b47 => ?_)
    · skip
      refine go_iload_n dX11_takesRight_76 rfl ?_
      refine go_retZ dX11_takesRight_77 rfl hy01 ?_
      first
        | (refine Or.inr ⟨hz.1, _, by rw [ek, if_pos hz.2], ?_⟩; skip)
        | exact Or.inl ⟨b47, by rcases hy with z | z; exact z.2; exact absurd b47 (by omega), rfl⟩
      all_goals refine ⟨⟨h1, ?_, wdA_app h3 (fun x hx => (hok.2.2.2.1 x hx).2.2) hz3 (by decide) hok.1.symm, rd_take_ok hok (by rw [ek, if_pos hz.2])⟩, (fr_sa (by decide)).tr (fr_sa (by decide))⟩
      all_goals exact (h2.fr (fs := []) (as := [10]) (fr_sa (by decide)) (by decide) (by decide)).fr (fs := []) (as := [8]) (fr_sa (by decide)) (by decide) (by decide)
    · skip
      have hz : y = 1 ∧ (s.2.2.1 ≠ [] ∧ s.2.2.2.length < 3 ∧ (s.2.2.2 ≠ [] ∨ s.2.2.1 ∉ s.1)) := by rcases hy with z | z; exact absurd z.1 b47; exact z
      have hz3 := hz.2.2.1
      refine go_aload_n dX11_takesRight_50 rfl ?_
      refine go_getr fl_X11_37 dX11_takesRight_51 sh_0 rfl ?_
      refine go_iconst dX11_takesRight_54 ?_
      refine go_iload_n dX11_takesRight_55 rfl ?_
      refine go_imul dX11_takesRight_56 ?_
      refine go_aload_n dX11_takesRight_57 rfl ?_
      refine go_getr fl_X11_31 dX11_takesRight_58 sh_0 rfl ?_
      refine go_iload_n dX11_takesRight_61 rfl ?_
      refine go_iaload dX11_takesRight_62 (by first | assumption | rfl) (by first | assumption | exact Nat.le_of_ble_eq_true rfl) (by omega) (by omega) ?_
      first | (rw [hcu.2]) | (rw [e2]) | skip
      refine go_iadd dX11_takesRight_63 ?_
      refine go_iload_n dX11_takesRight_64 rfl ?_
      refine go_iastore dX11_takesRight_65 (by first | assumption | rfl) (by first | assumption | exact Nat.le_of_ble_eq_true rfl) (by omega) (by omega) ?_
      refine go_aload_n dX11_takesRight_66 rfl ?_
      refine go_getr fl_X11_31 dX11_takesRight_67 sh_0 rfl ?_
      refine go_iload_n dX11_takesRight_70 rfl ?_
      refine go_dup2 dX11_takesRight_71 rfl rfl ?_
      refine go_iaload dX11_takesRight_72 (by first | assumption | rfl) (by first | assumption | exact Nat.le_of_ble_eq_true rfl) (by omega) (by omega) ?_
      first | (rw [hcu.2]) | (rw [e2]) | skip
      refine go_iconst dX11_takesRight_73 ?_
      refine go_iadd dX11_takesRight_74 ?_
      refine go_iastore dX11_takesRight_75 (by first | assumption | rfl) (by first | assumption | exact Nat.le_of_ble_eq_true rfl) (by omega) (by omega) ?_
      refine go_iload_n dX11_takesRight_76 rfl ?_
      refine go_retZ dX11_takesRight_77 rfl hy01 ?_
      first
        | (refine Or.inr ⟨hz.1, _, by rw [ek, if_pos hz.2], ?_⟩; skip)
        | exact Or.inl ⟨b47, by rcases hy with z | z; exact z.2; exact absurd b47 (by omega), rfl⟩
      all_goals refine ⟨⟨h1, ?_, wdA_app h3 (fun x hx => (hok.2.2.2.1 x hx).2.2) hz3 (by decide) hok.1.symm, rd_take_ok hok (by rw [ek, if_pos hz.2])⟩, (fr_sa (by decide)).tr (fr_sa (by decide))⟩
      all_goals exact (h2.fr (fs := []) (as := [10]) (fr_sa (by decide)) (by decide) (by decide)).fr (fs := []) (as := [8]) (fr_sa (by decide)) (by decide) (by decide)
  have n1 : ¬ s.2.2.1 = [] ↔ 0 < (s.2.2.1.length : Int) := by rw [← len0]; omega
  have n2 : ¬ s.2.2.2 = [] ↔ 0 < (s.2.2.2.length : Int) := by rw [← len0]; omega
  refine am_ev (by decide) [some (.ref 0), some (.int (iZ (c))), none, none] rfl (Nat.le_of_ble_eq_true rfl) ?_
  refine go_aload_n dX11_takesRight_0 rfl ?_
  refine go_geti fl_X11_79 dX11_takesRight_1 sh_0 rfl ?_
  first | (rw [h1]) | (rw [hcu.1]) | (rw [hcu.2]) | skip
  refine go_ist2 dX11_takesRight_4 (Nat.le_of_ble_eq_true rfl) rfl ?_
  refine go_aload_n dX11_takesRight_5 rfl ?_
  refine go_getr fl_X11_28 dX11_takesRight_6 sh_0 rfl ?_
  refine go_iload_n dX11_takesRight_9 rfl ?_
  refine go_iaload dX11_takesRight_10 (by first | assumption | rfl) (by first | assumption | exact Nat.le_of_ble_eq_true rfl) (by omega) (by omega) ?_
  first | (rw [h1]) | (rw [hcu.1]) | (rw [hcu.2]) | skip
  refine go_if_le (tgt := 44) dX11_takesRight_11 (by decide) (by unfold inR; omega) (fun b11 => ?_) (fun b11 => ?_)
  · skip
    refine go_iconst dX11_takesRight_44 ?_
    refine tail _ ?_
    first
      | exact Or.inr ⟨rfl, n1.mpr (by omega), by omega, Or.inl (n2.mpr b30)⟩
      | exact Or.inr ⟨rfl, n1.mpr (by omega), by omega, Or.inr (fun z => by rw [if_pos z] at b37; exact absurd b37 (by decide))⟩
      | (refine Or.inl ⟨rfl, ?_⟩; rw [ek, if_neg]; intro z; have z1 := n1.mp z.1; first | omega | (have := z.2.1; omega) | (rcases z.2.2 with q | q; exact b30 (n2.mp q); rw [if_neg q] at b37; exact b37 rfl))
  · skip
    refine go_aload_n dX11_takesRight_14 rfl ?_
    refine go_getr fl_X11_31 dX11_takesRight_15 sh_0 rfl ?_
    refine go_iload_n dX11_takesRight_18 rfl ?_
    refine go_iaload dX11_takesRight_19 (by first | assumption | rfl) (by first | assumption | exact Nat.le_of_ble_eq_true rfl) (by omega) (by omega) ?_
    first | (rw [h1]) | (rw [hcu.1]) | (rw [hcu.2]) | skip
    refine go_iconst dX11_takesRight_20 ?_
    refine go_icmp_ge (tgt := 44) dX11_takesRight_21 (by decide) (by unfold inR; omega) (by unfold inR; omega) (fun b21 => ?_) (fun b21 => ?_)
    · skip
      refine go_iconst dX11_takesRight_44 ?_
      refine tail _ ?_
      first
        | exact Or.inr ⟨rfl, n1.mpr (by omega), by omega, Or.inl (n2.mpr b30)⟩
        | exact Or.inr ⟨rfl, n1.mpr (by omega), by omega, Or.inr (fun z => by rw [if_pos z] at b37; exact absurd b37 (by decide))⟩
        | (refine Or.inl ⟨rfl, ?_⟩; rw [ek, if_neg]; intro z; have z1 := n1.mp z.1; first | omega | (have := z.2.1; omega) | (rcases z.2.2 with q | q; exact b30 (n2.mp q); rw [if_neg q] at b37; exact b37 rfl))
    · skip
      refine go_aload_n dX11_takesRight_24 rfl ?_
      refine go_getr fl_X11_31 dX11_takesRight_25 sh_0 rfl ?_
      refine go_iload_n dX11_takesRight_28 rfl ?_
      refine go_iaload dX11_takesRight_29 (by first | assumption | rfl) (by first | assumption | exact Nat.le_of_ble_eq_true rfl) (by omega) (by omega) ?_
      first | (rw [h1]) | (rw [hcu.1]) | (rw [hcu.2]) | skip
      refine go_if_gt (tgt := 40) dX11_takesRight_30 (by decide) (by unfold inR; omega) (fun b30 => ?_) (fun b30 => ?_)
      · skip
        refine go_iconst dX11_takesRight_40 ?_
        refine go_goto (tgt := 45) dX11_takesRight_41 (by decide) ?_
        refine tail _ ?_
        first
          | exact Or.inr ⟨rfl, n1.mpr (by omega), by omega, Or.inl (n2.mpr b30)⟩
          | exact Or.inr ⟨rfl, n1.mpr (by omega), by omega, Or.inr (fun z => by rw [if_pos z] at b37; exact absurd b37 (by decide))⟩
          | (refine Or.inl ⟨rfl, ?_⟩; rw [ek, if_neg]; intro z; have z1 := n1.mp z.1; first | omega | (have := z.2.1; omega) | (rcases z.2.2 with q | q; exact b30 (n2.mp q); rw [if_neg q] at b37; exact b37 rfl))
      · skip
        refine go_aload_n dX11_takesRight_33 rfl ?_
        refine go_cvP0 (M2 := mX11_isTwice) dX11_takesRight_34 ml_X11_82 mv_X11_isTwice sh_0 rfl rfl (Nat.le_of_ble_eq_true rfl) (by decide) (ev_X11_isTwice hall) ?_
        refine go_if_ne (tgt := 44) dX11_takesRight_37 (by decide) (by unfold inR; split <;> omega) (fun b37 => ?_) (fun b37 => ?_)
        · skip
          refine go_iconst dX11_takesRight_44 ?_
          refine tail _ ?_
          first
            | exact Or.inr ⟨rfl, n1.mpr (by omega), by omega, Or.inl (n2.mpr b30)⟩
            | exact Or.inr ⟨rfl, n1.mpr (by omega), by omega, Or.inr (fun z => by rw [if_pos z] at b37; exact absurd b37 (by decide))⟩
            | (refine Or.inl ⟨rfl, ?_⟩; rw [ek, if_neg]; intro z; have z1 := n1.mp z.1; first | omega | (have := z.2.1; omega) | (rcases z.2.2 with q | q; exact b30 (n2.mp q); rw [if_neg q] at b37; exact b37 rfl))
        · skip
          refine go_iconst dX11_takesRight_40 ?_
          refine go_goto (tgt := 45) dX11_takesRight_41 (by decide) ?_
          refine tail _ ?_
          first
            | exact Or.inr ⟨rfl, n1.mpr (by omega), by omega, Or.inl (n2.mpr b30)⟩
            | exact Or.inr ⟨rfl, n1.mpr (by omega), by omega, Or.inr (fun z => by rw [if_pos z] at b37; exact absurd b37 (by decide))⟩
            | (refine Or.inl ⟨rfl, ?_⟩; rw [ek, if_neg]; intro z; have z1 := n1.mp z.1; first | omega | (have := z.2.1; omega) | (rcases z.2.2 with q | q; exact b30 (n2.mp q); rw [if_neg q] at b37; exact b37 rfl))
theorem ev_X11_takesComma {σ : am_St} {s : rd_S} (h : rdM σ s) : am_Ev SH mX11_takesComma 0 [.ref 0] σ (am_rI (tkM σ s 44)) := by
  have hcu := h.cur
  obtain ⟨h1, h2, h3, hok⟩ := h
  have hn := hok.2.1
  have hlr := hok.2.2.2.2.2.2.2.1
  have ek : rd_take s 44 = if s.2.2.2 ≠ [] ∧ s.1.length + 1 < 8 then some (s.1 ++ [s.2.2.1], s.2.1 ++ [s.2.2.2], [], []) else none := by unfold rd_take; rw [if_neg (by omega), if_neg (by omega), if_pos rfl]
  have n2 : ¬ s.2.2.2 = [] ↔ 0 < (s.2.2.2.length : Int) := by rw [← len0]; omega
  have e3 : (am_si σ 0 14 ((s.1.length : Int) + 1)).1 0 14 = (s.1.length : Int) + 1 := by simp [am_si]
  have e4 : (am_sa (am_si σ 0 14 ((s.1.length : Int) + 1)) 7 ((s.1.length : Int) + 1) 0).1 0 14 = (s.1.length : Int) + 1 := e3
  have tail : ∀ y : Int, (y = 0 ∧ rd_take s 44 = none) ∨ (y = 1 ∧ (s.2.2.2 ≠ [] ∧ s.1.length + 1 < 8)) → am_Go SH mX11_takesComma 0 (am_rI (tkM σ s 44)) 28 [some (.ref 0), none] [.int (iZ y)] σ := by
    intro y hy
    have hy01 : y = 0 ∨ y = 1 := by rcases hy with z | z; exact Or.inl z.1; exact Or.inr z.1
    refine go_ist1 dX11_takesComma_28 (Nat.le_of_ble_eq_true rfl) rfl ?_
    refine go_iload_n dX11_takesComma_29 rfl ?_
    refine go_if_eq (tgt := 63) dX11_takesComma_30 (by decide) (by unfold inR; omega) (fun b30 => ?_) (fun b30 => ?_)
    · skip
      refine go_iload_n dX11_takesComma_63 rfl ?_
      refine go_retZ dX11_takesComma_64 rfl hy01 ?_
      first
        | (refine Or.inr ⟨hz.1, _, by rw [ek, if_pos hz.2], ?_⟩; skip)
        | exact Or.inl ⟨b30, by rcases hy with z | z; exact z.2; exact absurd b30 (by omega), rfl⟩
      all_goals have o0 : fr [14] [] σ (am_si σ 0 14 ((s.1.length : Int) + 1)) := fr_si (by decide)
      all_goals have w7 := wdA_new (n := s.1.length + 1) (h2.fr o0 (by decide) (by decide)) (by decide) (by simp)
      all_goals have w8 := wdA_new (n := s.1.length + 1) ((h3.fr o0 (by decide) (by decide)).fr (fs := []) (as := [7]) (fr_sa (k := 7) (i := ((s.1.length + 1 : Nat) : Int)) (v := 0) (by decide)) (by decide) (by decide)) (by decide) (by simp [hok.1])
      all_goals refine ⟨⟨by simp [am_si, am_sa], w7.fr (fs := []) (as := [8]) (fr_sa (by decide)) (by decide) (by decide), w8, rd_take_ok hok (by rw [ek, if_pos hz.2])⟩, (((fr_si (by decide)).tr (fr_sa (by decide))).tr (fr_sa (by decide)))⟩
    · skip
      have hz : y = 1 ∧ (s.2.2.2 ≠ [] ∧ s.1.length + 1 < 8) := by rcases hy with z | z; exact absurd z.1 b30; exact z
      have hz3 := hz.2.2
      refine go_aload_n dX11_takesComma_33 rfl ?_
      refine go_dup dX11_takesComma_34 rfl ?_
      refine go_geti fl_X11_79 dX11_takesComma_35 sh_0 rfl ?_
      first | (rw [h1]) | (rw [e3]) | (rw [e4]) | skip
      refine go_iconst dX11_takesComma_38 ?_
      refine go_iadd dX11_takesComma_39 ?_
      refine go_puti fl_X11_79 dX11_takesComma_40 sh_0 rfl am_fit_int ?_
      refine go_aload_n dX11_takesComma_43 rfl ?_
      refine go_getr fl_X11_28 dX11_takesComma_44 sh_0 rfl ?_
      refine go_aload_n dX11_takesComma_47 rfl ?_
      refine go_geti fl_X11_79 dX11_takesComma_48 sh_0 rfl ?_
      first | (rw [h1]) | (rw [e3]) | (rw [e4]) | skip
      refine go_iconst dX11_takesComma_51 ?_
      refine go_iastore dX11_takesComma_52 (by first | assumption | rfl) (by first | assumption | exact Nat.le_of_ble_eq_true rfl) (by omega) (by omega) ?_
      refine go_aload_n dX11_takesComma_53 rfl ?_
      refine go_getr fl_X11_31 dX11_takesComma_54 sh_0 rfl ?_
      refine go_aload_n dX11_takesComma_57 rfl ?_
      refine go_geti fl_X11_79 dX11_takesComma_58 sh_0 rfl ?_
      first | (rw [h1]) | (rw [e3]) | (rw [e4]) | skip
      refine go_iconst dX11_takesComma_61 ?_
      refine go_iastore dX11_takesComma_62 (by first | assumption | rfl) (by first | assumption | exact Nat.le_of_ble_eq_true rfl) (by omega) (by omega) ?_
      refine go_iload_n dX11_takesComma_63 rfl ?_
      refine go_retZ dX11_takesComma_64 rfl hy01 ?_
      first
        | (refine Or.inr ⟨hz.1, _, by rw [ek, if_pos hz.2], ?_⟩; skip)
        | exact Or.inl ⟨b30, by rcases hy with z | z; exact z.2; exact absurd b30 (by omega), rfl⟩
      all_goals have o0 : fr [14] [] σ (am_si σ 0 14 ((s.1.length : Int) + 1)) := fr_si (by decide)
      all_goals have w7 := wdA_new (n := s.1.length + 1) (h2.fr o0 (by decide) (by decide)) (by decide) (by simp)
      all_goals have w8 := wdA_new (n := s.1.length + 1) ((h3.fr o0 (by decide) (by decide)).fr (fs := []) (as := [7]) (fr_sa (k := 7) (i := ((s.1.length + 1 : Nat) : Int)) (v := 0) (by decide)) (by decide) (by decide)) (by decide) (by simp [hok.1])
      all_goals refine ⟨⟨by simp [am_si, am_sa], w7.fr (fs := []) (as := [8]) (fr_sa (by decide)) (by decide) (by decide), w8, rd_take_ok hok (by rw [ek, if_pos hz.2])⟩, (((fr_si (by decide)).tr (fr_sa (by decide))).tr (fr_sa (by decide)))⟩
  refine am_ev (by decide) [some (.ref 0), none] rfl (Nat.le_of_ble_eq_true rfl) ?_
  refine go_aload_n dX11_takesComma_0 rfl ?_
  refine go_getr fl_X11_31 dX11_takesComma_1 sh_0 rfl ?_
  refine go_aload_n dX11_takesComma_4 rfl ?_
  refine go_geti fl_X11_79 dX11_takesComma_5 sh_0 rfl ?_
  first | (rw [h1]) | (rw [hcu.2]) | skip
  refine go_iaload dX11_takesComma_8 (by first | assumption | rfl) (by first | assumption | exact Nat.le_of_ble_eq_true rfl) (by omega) (by omega) ?_
  first | (rw [h1]) | (rw [hcu.2]) | skip
  refine go_if_le (tgt := 27) dX11_takesComma_9 (by decide) (by unfold inR; omega) (fun b9 => ?_) (fun b9 => ?_)
  · skip
    refine go_iconst dX11_takesComma_27 ?_
    refine tail _ ?_
    first
      | exact Or.inr ⟨rfl, n2.mpr (by omega), by omega⟩
      | (refine Or.inl ⟨rfl, ?_⟩; rw [ek, if_neg]; intro z; have z1 := n2.mp z.1; have z2 := z.2; omega)
  · skip
    refine go_aload_n dX11_takesComma_12 rfl ?_
    refine go_geti fl_X11_79 dX11_takesComma_13 sh_0 rfl ?_
    first | (rw [h1]) | (rw [hcu.2]) | skip
    refine go_iconst dX11_takesComma_16 ?_
    refine go_iadd dX11_takesComma_17 ?_
    refine go_bipush dX11_takesComma_18 rfl ?_
    refine go_icmp_ge (tgt := 27) dX11_takesComma_20 (by decide) (by unfold inR; omega) (by unfold inR; omega) (fun b20 => ?_) (fun b20 => ?_)
    · skip
      refine go_iconst dX11_takesComma_27 ?_
      refine tail _ ?_
      first
        | exact Or.inr ⟨rfl, n2.mpr (by omega), by omega⟩
        | (refine Or.inl ⟨rfl, ?_⟩; rw [ek, if_neg]; intro z; have z1 := n2.mp z.1; have z2 := z.2; omega)
    · skip
      refine go_iconst dX11_takesComma_23 ?_
      refine go_goto (tgt := 28) dX11_takesComma_24 (by decide) ?_
      refine tail _ ?_
      first
        | exact Or.inr ⟨rfl, n2.mpr (by omega), by omega⟩
        | (refine Or.inl ⟨rfl, ?_⟩; rw [ek, if_neg]; intro z; have z1 := n2.mp z.1; have z2 := z.2; omega)
theorem tk01 {σ σ2 : am_St} {s : rd_S} {c x : Int} (h : tkM σ s c x σ2) : x = 0 ∨ x = 1 := by rcases h with z | z; exact Or.inl z.1; exact Or.inr z.1
theorem ev_X11_takes {σ : am_St} {s : rd_S} {c : Int} (h : rdM σ s) (hc : inR c) : am_Ev SH mX11_takes 2 [.ref 0, .int (iZ c)] σ (am_rI (tkM σ s c)) := by
  refine am_ev (by decide) [some (.ref 0), some (.int (iZ (c)))] rfl (Nat.le_of_ble_eq_true rfl) ?_
  refine go_iload_n dX11_takes_0 rfl ?_
  refine go_bipush dX11_takes_1 rfl ?_
  refine go_icmp_ne (tgt := 11) dX11_takes_3 (by decide) hc (by unfold inR; omega) (fun b3 => ?_) (fun b3 => ?_)
  · skip
    refine go_iload_n dX11_takes_11 rfl ?_
    refine go_csP1 (M2 := mX11_isSmall) dX11_takes_12 ml_X11_89 ms_X11_isSmall (Nat.le_of_ble_eq_true rfl) (by decide) (ev_X11_isSmall hc) ?_
    refine go_if_eq (tgt := 26) dX11_takes_15 (by decide) (by unfold inR; split <;> omega) (fun b15 => ?_) (fun b15 => ?_)
    · skip
      have hs : ¬ (97 ≤ c ∧ c ≤ 122) := fun z => by rw [if_pos z] at b15; exact absurd b15 (by decide)
      refine go_iload_n dX11_takes_26 rfl ?_
      refine go_csP1 (M2 := mX11_isGreat) dX11_takes_27 ml_X11_96 ms_X11_isGreat (Nat.le_of_ble_eq_true rfl) (by decide) (ev_X11_isGreat hc) ?_
      refine go_if_eq (tgt := 45) dX11_takes_30 (by decide) (by unfold inR; split <;> omega) (fun b30 => ?_) (fun b30 => ?_)
      · skip
        have hg : ¬ (65 ≤ c ∧ c ≤ 90) := fun z => by rw [if_pos z] at b30; exact absurd b30 (by decide)
        refine go_iconst dX11_takes_45 ?_
        refine go_retZ dX11_takes_46 rfl (by first | exact tk01 hq | simp) ?_
        first
          | exact hq
          | (rw [b38] at hq; exact hq)
          | (rw [show x = 1 from (tk01 hq).resolve_left b38] at hq; exact hq)
          | exact Or.inl ⟨rfl, by unfold rd_take; rw [if_neg hs, if_neg hg, if_neg b3], rfl⟩
      · skip
        have hg : 65 ≤ c ∧ c ≤ 90 := by by_cases z : 65 ≤ c ∧ c ≤ 90; exact z; rw [if_neg z] at b30; exact absurd rfl b30
        refine go_aload_n dX11_takes_33 rfl ?_
        refine go_iload_n dX11_takes_34 rfl ?_
        refine go_cvI1 (M2 := mX11_takesRight) dX11_takes_35 ml_X11_99 mv_X11_takesRight sh_0 rfl rfl (Nat.le_of_ble_eq_true rfl) (by decide) (ev_X11_takesRight h hg) (fun x σ1 hq => ?_)
        refine go_if_eq (tgt := 45) dX11_takes_38 (by decide) (by have := tk01 hq; unfold inR; omega) (fun b38 => ?_) (fun b38 => ?_)
        · skip
          refine go_iconst dX11_takes_45 ?_
          refine go_retZ dX11_takes_46 rfl (by first | exact tk01 hq | simp) ?_
          first
            | exact hq
            | (rw [b38] at hq; exact hq)
            | (rw [show x = 1 from (tk01 hq).resolve_left b38] at hq; exact hq)
            | exact Or.inl ⟨rfl, by unfold rd_take; rw [if_neg hs, if_neg hg, if_neg b3], rfl⟩
        · skip
          refine go_iconst dX11_takes_41 ?_
          refine go_goto (tgt := 46) dX11_takes_42 (by decide) ?_
          refine go_retZ dX11_takes_46 rfl (by first | exact tk01 hq | simp) ?_
          first
            | exact hq
            | (rw [b38] at hq; exact hq)
            | (rw [show x = 1 from (tk01 hq).resolve_left b38] at hq; exact hq)
            | exact Or.inl ⟨rfl, by unfold rd_take; rw [if_neg hs, if_neg hg, if_neg b3], rfl⟩
    · skip
      have hs : 97 ≤ c ∧ c ≤ 122 := by by_cases z : 97 ≤ c ∧ c ≤ 122; exact z; rw [if_neg z] at b15; exact absurd rfl b15
      refine go_aload_n dX11_takes_18 rfl ?_
      refine go_iload_n dX11_takes_19 rfl ?_
      refine go_cvI1 (M2 := mX11_takesLeft) dX11_takes_20 ml_X11_93 mv_X11_takesLeft sh_0 rfl rfl (Nat.le_of_ble_eq_true rfl) (by decide) (ev_X11_takesLeft h hs) (fun x σ1 hq => ?_)
      refine go_goto (tgt := 46) dX11_takes_23 (by decide) ?_
      refine go_retZ dX11_takes_46 rfl (by first | exact tk01 hq | simp) ?_
      first
        | exact hq
        | (rw [b38] at hq; exact hq)
        | (rw [show x = 1 from (tk01 hq).resolve_left b38] at hq; exact hq)
        | exact Or.inl ⟨rfl, by unfold rd_take; rw [if_neg hs, if_neg hg, if_neg b3], rfl⟩
  · skip
    refine go_aload_n dX11_takes_6 rfl ?_
    subst b3
    refine go_cvI0 (M2 := mX11_takesComma) dX11_takes_7 ml_X11_86 mv_X11_takesComma sh_0 rfl rfl (Nat.le_of_ble_eq_true rfl) (by decide) (ev_X11_takesComma h) (fun x σ1 hq => ?_)
    refine go_retZ dX11_takes_10 rfl (tk01 hq) ?_
    exact hq
theorem rdM.fr {σ σ' : am_St} {s : rd_S} {fs as : List Nat} (h : rdM σ s) (ho : fr fs as σ σ') (h1 : 14 ∉ fs) (h2 : ∀ p ∈ [7, 8, 9, 10], p ∉ as) : rdM σ' s := ⟨by rw [ho.f 14 h1]; exact h.1, h.2.1.fr ho (h2 7 (by decide)) (h2 9 (by decide)), h.2.2.1.fr ho (h2 8 (by decide)) (h2 10 (by decide)), h.2.2.2⟩
theorem rd_run_st {xs : List Int} {c : Int} {s : rd_S} : rd_run (c :: xs) s = match rd_take s c with
    | none => (0, s)
    | some s' => ((rd_run xs s').1 + 1, (rd_run xs s').2) := rfl
theorem ev_X11_read {σ : am_St} {xs : List Int} (hl : σ.1 0 9 = (xs.length : Int)) (ha : arA σ 6 xs) (hk : okl xs) (h56 : xs.length ≤ 56) : am_Ev SH mX11_read 3 [.ref 0] σ (am_rI (fun x σ2 => x = (rd_run xs rd_0).1 ∧ rdM σ2 (rd_run xs rd_0).2 ∧ fr RDF RDA σ σ2)) := by
  generalize hT : rd_run xs rd_0 = T
  have loop : ∀ (m : Nat) (i : Nat) (s : rd_S) (σ1 : am_St), xs.length - i < m → i ≤ xs.length → rdM σ1 s → fr RDF RDA σ σ1 → (i + (rd_run (xs.drop i) s).1 = T.1 ∧ (rd_run (xs.drop i) s).2 = T.2) → am_Go SH mX11_read 3 (am_rI (fun x σ2 => x = T.1 ∧ rdM σ2 T.2 ∧ fr RDF RDA σ σ2)) 21 [some (.ref 0), some (.int (iZ (i : Int)))] [] σ1 := by
    intro m
    induction m with
    | zero => intro i s σ1 hm; exact absurd hm (by omega)
    | succ m ih =>
      intro i s σ1 hm hi hr ho he
      have hl1 : σ1.1 0 9 = (xs.length : Int) := by rw [ho.f 9 (by decide)]; exact hl
      have ha1 := ha.fr ho (by decide)
      by_cases hlt : i < xs.length
      · have e35 := ha1 i hlt
        rw [ln_at_drop hlt, rd_run_st] at he
        have hcR : inR (ln_at xs (i : Int)) := ln_at_R (okl_R hk)
        refine go_iload_n dX11_read_21 rfl ?_
        refine go_aload_n dX11_read_22 rfl ?_
        refine go_geti fl_X11_75 dX11_read_23 sh_0 rfl ?_
        first | (rw [hl1]) | (rw [e35]) | skip
        refine go_icmp_ge (tgt := 48) dX11_read_26 (by decide) (by unfold inR; omega) (by unfold inR; omega) (fun b26 => ?_) (fun b26 => ?_)
        · skip
          omega
        · skip
          refine go_aload_n dX11_read_29 rfl ?_
          refine go_aload_n dX11_read_30 rfl ?_
          refine go_getr fl_X11_25 dX11_read_31 sh_0 rfl ?_
          refine go_iload_n dX11_read_34 rfl ?_
          refine go_iaload dX11_read_35 (by first | assumption | rfl) (by first | assumption | exact Nat.le_of_ble_eq_true rfl) (by omega) (by omega) ?_
          first | (rw [hl1]) | (rw [e35]) | skip
          refine go_cvI1 (M2 := mX11_takes) dX11_read_36 ml_X11_102 mv_X11_takes sh_0 rfl rfl (Nat.le_of_ble_eq_true rfl) (by decide) (ev_X11_takes hr hcR) (fun x σ2 hq => ?_)
          refine go_if_eq (tgt := 48) dX11_read_39 (by decide) (by have := tk01 hq; unfold inR; omega) (fun b39 => ?_) (fun b39 => ?_)
          · skip
            rcases hq with ⟨q1, q2, q3⟩ | ⟨q1, _⟩
            rotate_left
            exact absurd b39 (by omega)
            rw [q2] at he
            rw [q3]
            refine go_iload_n dX11_read_48 rfl ?_
            refine go_retI dX11_read_49 rfl ?_
            exact ⟨by rw [← he.1]; simp, by rw [← he.2]; exact hr, ho⟩
          · skip
            rcases hq with ⟨q1, _⟩ | ⟨q1, s', q2, q3, q4⟩
            exact absurd q1 b39
            rw [q2] at he
            refine go_inc1 dX11_read_42 (Nat.le_of_ble_eq_true rfl) rfl ?_
            refine go_goto (tgt := 21) dX11_read_45 (by decide) ?_
            exact ih (i + 1) s' _ (by omega) (by omega) q3 (ho.tr q4) ⟨by rw [← he.1]; simp only []; omega, he.2⟩
      · rw [List.drop_eq_nil_of_le (by omega)] at he
        refine go_iload_n dX11_read_21 rfl ?_
        refine go_aload_n dX11_read_22 rfl ?_
        refine go_geti fl_X11_75 dX11_read_23 sh_0 rfl ?_
        first | (rw [hl1]) | skip
        refine go_icmp_ge (tgt := 48) dX11_read_26 (by decide) (by unfold inR; omega) (by unfold inR; omega) (fun b26 => ?_) (fun b26 => ?_)
        · skip
          refine go_iload_n dX11_read_48 rfl ?_
          refine go_retI dX11_read_49 rfl ?_
          exact ⟨by rw [← he.1]; simp [rd_run], by rw [← he.2]; exact hr, ho⟩
        · skip
          omega
  refine am_ev (by decide) [some (.ref 0), none] rfl (Nat.le_of_ble_eq_true rfl) ?_
  refine go_aload_n dX11_read_0 rfl ?_
  refine go_iconst dX11_read_1 ?_
  refine go_puti fl_X11_79 dX11_read_2 sh_0 rfl am_fit_int ?_
  refine go_aload_n dX11_read_5 rfl ?_
  refine go_getr fl_X11_28 dX11_read_6 sh_0 rfl ?_
  refine go_iconst dX11_read_9 ?_
  refine go_iconst dX11_read_10 ?_
  refine go_iastore dX11_read_11 (by first | assumption | rfl) (by first | assumption | exact Nat.le_of_ble_eq_true rfl) (by omega) (by omega) ?_
  refine go_aload_n dX11_read_12 rfl ?_
  refine go_getr fl_X11_31 dX11_read_13 sh_0 rfl ?_
  refine go_iconst dX11_read_16 ?_
  refine go_iconst dX11_read_17 ?_
  refine go_iastore dX11_read_18 (by first | assumption | rfl) (by first | assumption | exact Nat.le_of_ble_eq_true rfl) (by omega) (by omega) ?_
  refine go_iconst dX11_read_19 ?_
  refine go_ist1 dX11_read_20 (Nat.le_of_ble_eq_true rfl) rfl ?_
  refine loop (xs.length + 1) 0 rd_0 _ (by omega) (by omega) ⟨by simp [am_si, am_sa, rd_0], ?_, ?_, rd_0_ok⟩ (((fr_si (by decide)).tr (fr_sa (by decide))).tr (fr_sa (by decide))) ⟨by simp [hT], by simp [hT]⟩
  · intro i hi
    have : i = 0 := by simp [rd_0] at hi; omega
    subst this
    exact ⟨by simp [am_sa, rd_0], fun j hj => absurd hj (by simp [rd_0])⟩
  · intro i hi
    have : i = 0 := by simp [rd_0] at hi; omega
    subst this
    exact ⟨by simp [am_sa, rd_0], fun j hj => absurd hj (by simp [rd_0])⟩
theorem ev_X11_fault {σ : am_St} {s : mS} (h : RepM σ s) : am_Ev SH mX11_fault 4 [.ref 0] σ (am_rI (fun x σ2 => x = (m_fault s).1 ∧ RepM σ2 (m_fault s).2 ∧ am_off XM σ σ2)) := by
  refine am_ev (by decide) [some (.ref 0)] rfl (Nat.le_of_ble_eq_true rfl) ?_
  refine go_aload_n dX11_fault_0 rfl ?_
  refine go_cvI0 (M2 := mX11_read) dX11_fault_1 ml_X11_105 mv_X11_read sh_0 rfl rfl (Nat.le_of_ble_eq_true rfl) (by decide) (ev_X11_read h.2.2.2.1.1 h.2.2.2.1.2.1 h.2.2.2.1.2.2.1 h.2.2.2.1.2.2.2) (fun x σ1 hq => ?_)
  refine go_retI dX11_fault_4 rfl ?_
  exact ⟨hq.1, h.fr hq.2.2 (by decide) (by decide), hq.2.2.off (by decide)⟩
