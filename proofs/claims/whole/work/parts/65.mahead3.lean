/-! ===== the reference: isClean, aheadsMany, isBefore, aheadOf, ahead, aheadAt ===== -/
theorem bf_len {A B : List Int} (h : A.length ≠ B.length) : ln_bf A B ↔ A.length < B.length := by
  unfold ln_bf
  constructor
  · rintro (z | z)
    · exact z
    · exact absurd z.1 h
  · exact Or.inl
theorem bf_eq {A B : List Int} (hl : A.length = B.length) (h : ∀ j, j < A.length → A[j]? = B[j]?) : ¬ ln_bf A B := by
  rintro (z | ⟨-, i, _, a, b, h1, h2, h3⟩)
  · omega
  · have hi := (List.getElem?_eq_some_iff.mp h1).1
    have := h i hi
    rw [h1, h2] at this
    have := Option.some.inj this
    omega
theorem ln_at_some {A : List Int} {i : Nat} (hi : i < A.length) : A[i]? = some (ln_at A (i : Int)) := by
  rw [ln_at_get (List.getElem?_eq_getElem hi)]; exact List.getElem?_eq_getElem hi
theorem bf_at {A B : List Int} {i : Nat} (hl : A.length = B.length) (hin : ∀ j, j < i → A[j]? = B[j]?) (hi : i < A.length) (hne : ¬ ln_at A (i : Int) = ln_at B (i : Int)) : ln_bf A B ↔ ln_at A (i : Int) < ln_at B (i : Int) := by
  have ea := ln_at_some hi
  have eb := ln_at_some (A := B) (i := i) (by omega)
  constructor
  · rintro (z | ⟨-, k, hk, a, b, h1, h2, h3⟩)
    · omega
    · rcases Nat.lt_trichotomy k i with q | q | q
      · have := hin k q
        rw [h1, h2] at this
        have := Option.some.inj this
        omega
      · subst q
        rw [ea] at h1
        rw [eb] at h2
        have := Option.some.inj h1
        have := Option.some.inj h2
        omega
      · have := hk i q
        rw [ea, eb] at this
        exact absurd (Option.some.inj this) hne
  · intro z
    exact Or.inr ⟨hl, i, hin, _, _, ea, eb, z⟩
theorem bf_nx {A B : List Int} {i : Nat} (hl : A.length = B.length) (hin : ∀ j, j < i → A[j]? = B[j]?) (hi : i < A.length) (he : ln_at A (i : Int) = ln_at B (i : Int)) : ∀ j, j < i + 1 → A[j]? = B[j]? := by
  intro j hj
  by_cases e : j = i
  · subst e
    rw [ln_at_some hi, ln_at_some (A := B) (by omega), he]
  · exact hin j (by omega)
theorem ev_X11_isClean {σ : am_St} {L R : List (List Int)} {m : Nat} (h : tbM σ L R m) (hf : σ.1 0 29 = 0 ∨ σ.1 0 29 = 1) : am_Ev SH mX11_isClean 7 [.ref 0] σ (am_rI (fun x σ2 => ((x = 1 ∧ ¬ Rem (mt_sg R m) []) ∨ (x = 0 ∧ Rem (mt_sg R m) [])) ∧ (σ2.1 0 29 = 0 ∨ σ2.1 0 29 = 1) ∧ fr [29] [16] σ σ2)) := by
  have loop : ∀ (σ1 : am_St) (ws : List (List Int)), tbM σ1 L R m → ahA σ1 (mt_sg R m) ws → (σ1.1 0 29 = 0 ∨ σ1.1 0 29 = 1) → fr [29] [16] σ σ1 → ∀ (m2 : Nat) (k : Nat) (y : Int), 40 - k < m2 → k ≤ 40 → ((y = 0 ∧ Rem (mt_sg R m) []) ∨ (y = 1 ∧ ∀ j, j < k → isL (mt_sg R m) [] j → ¬ Rem (mt_sg R m) [])) → am_Go SH mX11_isClean 7 (am_rI (fun x σ2 => ((x = 1 ∧ ¬ Rem (mt_sg R m) []) ∨ (x = 0 ∧ Rem (mt_sg R m) [])) ∧ (σ2.1 0 29 = 0 ∨ σ2.1 0 29 = 1) ∧ fr [29] [16] σ σ2)) 8 [some (.ref 0), some (.int (iZ y)), some (.int (iZ (k : Int)))] [] σ1 := by
    intro σ1 ws t1 ha hf1 ho m2
    induction m2 with
    | zero => intro k y hm; exact absurd hm (by omega)
    | succ m2 ih =>
      intro k y hm hk hy
      by_cases hlt : k < 40
      · rcases hy with ⟨y0, hr⟩ | ⟨y1, hn⟩
        · subst y0
          refine go_iload_n dX11_isClean_8 rfl ?_
          refine go_bipush dX11_isClean_9 rfl ?_
          refine go_icmp_ge (tgt := 47) dX11_isClean_11 (by decide) (by unfold inR; omega) (by unfold inR; omega) (fun b11 => ?_) (fun b11 => ?_)
          · skip
            omega
          · skip
            refine go_iload_n dX11_isClean_14 rfl ?_
            refine go_if_eq (tgt := 39) dX11_isClean_15 (by decide) (by unfold inR; omega) (fun b15 => ?_) (fun b15 => ?_)
            · skip
              refine go_iconst dX11_isClean_39 ?_
              refine go_ist1 dX11_isClean_40 (Nat.le_of_ble_eq_true rfl) rfl ?_
              refine go_inc2 dX11_isClean_41 (Nat.le_of_ble_eq_true rfl) rfl ?_
              refine go_goto (tgt := 8) dX11_isClean_44 (by decide) ?_
              exact ih (k + 1) _ (by omega) (by omega) (Or.inl ⟨rfl, hr⟩)
            · skip
              exact absurd rfl b15
        · subst y1
          rcases ha.1.1 k hlt with ⟨e16, w, hw, hl⟩ | ⟨e16, hno⟩
          · have hwp := hl.2.1
            by_cases hwn : w = []
            · skip
              refine go_iload_n dX11_isClean_8 rfl ?_
              refine go_bipush dX11_isClean_9 rfl ?_
              refine go_icmp_ge (tgt := 47) dX11_isClean_11 (by decide) (by unfold inR; omega) (by unfold inR; omega) (fun b11 => ?_) (fun b11 => ?_)
              · skip
                omega
              · skip
                refine go_iload_n dX11_isClean_14 rfl ?_
                refine go_if_eq (tgt := 39) dX11_isClean_15 (by decide) (by unfold inR; omega) (fun b15 => ?_) (fun b15 => ?_)
                · skip
                  exact absurd b15 (by decide)
                · skip
                  refine go_aload_n dX11_isClean_18 rfl ?_
                  refine go_getr fl_X11_55 dX11_isClean_19 sh_0 rfl ?_
                  refine go_iload_n dX11_isClean_22 rfl ?_
                  refine go_baload dX11_isClean_23 (by first | assumption | rfl) (by first | assumption | exact Nat.le_of_ble_eq_true rfl) (by omega) (by omega) ?_
                  first | (rw [e16]) | skip
                  refine go_if_eq (tgt := 35) dX11_isClean_24 (by decide) (by unfold inR; omega) (fun b24 => ?_) (fun b24 => ?_)
                  · skip
                    exact absurd b24 (by decide)
                  · skip
                    refine go_aload_n dX11_isClean_27 rfl ?_
                    refine go_iload_n dX11_isClean_28 rfl ?_
                    refine go_cvP1 (M2 := mX11_lengthOf) dX11_isClean_29 ml_X11_207 mv_X11_lengthOf sh_0 rfl rfl (Nat.le_of_ble_eq_true rfl) (by decide) (ev_X11_lengthOf t1 hl.1) ?_
                    rw [hwp, hwn]
                    refine go_if_eq (tgt := 39) dX11_isClean_32 (by decide) (by simp only [List.length_nil]; unfold inR; omega) (fun b32 => ?_) (fun b32 => ?_)
                    · skip
                      refine go_iconst dX11_isClean_39 ?_
                      refine go_ist1 dX11_isClean_40 (Nat.le_of_ble_eq_true rfl) rfl ?_
                      refine go_inc2 dX11_isClean_41 (Nat.le_of_ble_eq_true rfl) rfl ?_
                      refine go_goto (tgt := 8) dX11_isClean_44 (by decide) ?_
                      exact ih (k + 1) _ (by omega) (by omega) (Or.inl ⟨rfl, by rw [← hwn]; exact (ha.2.2 w).mp hw⟩)
                    · skip
                      exact absurd (by simp) b32
            · have hlen : 0 < w.length := List.length_pos_iff.mpr hwn
              have l4w := (t1.pk k).2
              rw [hwp] at l4w
              refine go_iload_n dX11_isClean_8 rfl ?_
              refine go_bipush dX11_isClean_9 rfl ?_
              refine go_icmp_ge (tgt := 47) dX11_isClean_11 (by decide) (by unfold inR; omega) (by unfold inR; omega) (fun b11 => ?_) (fun b11 => ?_)
              · skip
                omega
              · skip
                refine go_iload_n dX11_isClean_14 rfl ?_
                refine go_if_eq (tgt := 39) dX11_isClean_15 (by decide) (by unfold inR; omega) (fun b15 => ?_) (fun b15 => ?_)
                · skip
                  exact absurd b15 (by decide)
                · skip
                  refine go_aload_n dX11_isClean_18 rfl ?_
                  refine go_getr fl_X11_55 dX11_isClean_19 sh_0 rfl ?_
                  refine go_iload_n dX11_isClean_22 rfl ?_
                  refine go_baload dX11_isClean_23 (by first | assumption | rfl) (by first | assumption | exact Nat.le_of_ble_eq_true rfl) (by omega) (by omega) ?_
                  first | (rw [e16]) | skip
                  refine go_if_eq (tgt := 35) dX11_isClean_24 (by decide) (by unfold inR; omega) (fun b24 => ?_) (fun b24 => ?_)
                  · skip
                    exact absurd b24 (by decide)
                  · skip
                    refine go_aload_n dX11_isClean_27 rfl ?_
                    refine go_iload_n dX11_isClean_28 rfl ?_
                    refine go_cvP1 (M2 := mX11_lengthOf) dX11_isClean_29 ml_X11_207 mv_X11_lengthOf sh_0 rfl rfl (Nat.le_of_ble_eq_true rfl) (by decide) (ev_X11_lengthOf t1 hl.1) ?_
                    rw [hwp]
                    refine go_if_eq (tgt := 39) dX11_isClean_32 (by decide) (by unfold inR; omega) (fun b32 => ?_) (fun b32 => ?_)
                    · skip
                      omega
                    · skip
                      refine go_iconst dX11_isClean_35 ?_
                      refine go_goto (tgt := 40) dX11_isClean_36 (by decide) ?_
                      refine go_ist1 dX11_isClean_40 (Nat.le_of_ble_eq_true rfl) rfl ?_
                      refine go_inc2 dX11_isClean_41 (Nat.le_of_ble_eq_true rfl) rfl ?_
                      refine go_goto (tgt := 8) dX11_isClean_44 (by decide) ?_
                      refine ih (k + 1) _ (by omega) (by omega) (Or.inr ⟨rfl, fun j hj hjl => ?_⟩)
                      by_cases e : j = k
                      · subst e; exact absurd (by rw [← hwp, hjl.2.1]) hwn
                      · exact hn j (by omega) hjl
          · skip
            refine go_iload_n dX11_isClean_8 rfl ?_
            refine go_bipush dX11_isClean_9 rfl ?_
            refine go_icmp_ge (tgt := 47) dX11_isClean_11 (by decide) (by unfold inR; omega) (by unfold inR; omega) (fun b11 => ?_) (fun b11 => ?_)
            · skip
              omega
            · skip
              refine go_iload_n dX11_isClean_14 rfl ?_
              refine go_if_eq (tgt := 39) dX11_isClean_15 (by decide) (by unfold inR; omega) (fun b15 => ?_) (fun b15 => ?_)
              · skip
                exact absurd b15 (by decide)
              · skip
                refine go_aload_n dX11_isClean_18 rfl ?_
                refine go_getr fl_X11_55 dX11_isClean_19 sh_0 rfl ?_
                refine go_iload_n dX11_isClean_22 rfl ?_
                refine go_baload dX11_isClean_23 (by first | assumption | rfl) (by first | assumption | exact Nat.le_of_ble_eq_true rfl) (by omega) (by omega) ?_
                first | (rw [e16]) | skip
                refine go_if_eq (tgt := 35) dX11_isClean_24 (by decide) (by unfold inR; omega) (fun b24 => ?_) (fun b24 => ?_)
                · skip
                  refine go_iconst dX11_isClean_35 ?_
                  refine go_goto (tgt := 40) dX11_isClean_36 (by decide) ?_
                  refine go_ist1 dX11_isClean_40 (Nat.le_of_ble_eq_true rfl) rfl ?_
                  refine go_inc2 dX11_isClean_41 (Nat.le_of_ble_eq_true rfl) rfl ?_
                  refine go_goto (tgt := 8) dX11_isClean_44 (by decide) ?_
                  refine ih (k + 1) _ (by omega) (by omega) (Or.inr ⟨rfl, fun j hj hjl hr => ?_⟩)
                  by_cases e : j = k
                  · subst e; exact hno ⟨[], (ha.2.2 []).mpr hr, hjl⟩
                  · exact hn j (by omega) hjl hr
                · skip
                  exact absurd rfl b24
      · have y01 : y = 0 ∨ y = 1 := hy.elim (fun z => Or.inl z.1) (fun z => Or.inr z.1)
        refine go_iload_n dX11_isClean_8 rfl ?_
        refine go_bipush dX11_isClean_9 rfl ?_
        refine go_icmp_ge (tgt := 47) dX11_isClean_11 (by decide) (by unfold inR; omega) (by unfold inR; omega) (fun b11 => ?_) (fun b11 => ?_)
        · skip
          refine go_iload_n dX11_isClean_47 rfl ?_
          refine go_retZ dX11_isClean_48 rfl y01 ?_
          refine ⟨?_, hf1, ho⟩
          rcases hy with z | z
          · exact Or.inr z
          · refine Or.inl ⟨z.1, fun hr => ?_⟩
            obtain ⟨j, hj, hjl⟩ := ha.1.2 [] ((ha.2.2 []).mpr hr)
            exact z.2 j (by omega) hjl hr
        · skip
          omega
  refine am_ev (by decide) [some (.ref 0), none, none] rfl (Nat.le_of_ble_eq_true rfl) ?_
  refine go_aload_n dX11_isClean_0 rfl ?_
  refine go_cvV0 (M2 := mX11_layAheads) dX11_isClean_1 ml_X11_239 mv_X11_layAheads sh_0 rfl rfl (Nat.le_of_ble_eq_true rfl) (by decide) (ev_X11_layAheads h hf) (fun σ1 hq => ?_)
  obtain ⟨⟨ws, ha⟩, hf1, ho⟩ := hq
  refine go_iconst dX11_isClean_4 ?_
  refine go_ist1 dX11_isClean_5 (Nat.le_of_ble_eq_true rfl) rfl ?_
  refine go_iconst dX11_isClean_6 ?_
  refine go_ist2 dX11_isClean_7 (Nat.le_of_ble_eq_true rfl) rfl ?_
  exact loop σ1 ws (h.fr ho (by decide) (by decide)) ha hf1 ho 41 0 1 (by omega) (by omega) (Or.inr ⟨rfl, fun j hj => absurd hj (by omega)⟩)
/-- the flags as told by the array isAhead -/
def ahb (σ : am_St) (k : Nat) : Bool := decide (σ.2.2 16 (k : Int) = 1)
theorem ah_perm {σ : am_St} {S ws : List (List Int)} (h : ahA σ S ws) : (((List.range 40).filter (ahb σ)).map (pt S)).Perm ws := by
  have fl : ∀ k, k ∈ (List.range 40).filter (ahb σ) → k < 40 ∧ ∃ w ∈ ws, isL S w k := by
    intro k hk
    rw [List.mem_filter, List.mem_range] at hk
    refine ⟨hk.1, ?_⟩
    have hb : σ.2.2 16 (k : Int) = 1 := of_decide_eq_true hk.2
    rcases h.1.1 k hk.1 with z | z
    · exact z.2
    · rw [z.1] at hb; exact absurd hb (by decide)
  have nd : (((List.range 40).filter (ahb σ)).map (pt S)).Nodup := by
    refine List.pairwise_map.mpr (List.Pairwise.imp_of_mem (fun {a b} ha hb hne he => ?_) (List.Pairwise.filter _ List.nodup_range))
    obtain ⟨_, w, _, hw⟩ := fl a ha
    obtain ⟨_, w', _, hw'⟩ := fl b hb
    have e : w = w' := by rw [← hw.2.1, he, hw'.2.1]
    rw [← e] at hw'
    exact hne (hw.uniq hw')
  refine (List.perm_ext_iff_of_nodup nd h.2.1).mpr (fun w => ?_)
  rw [List.mem_map]
  constructor
  · rintro ⟨k, hk, rfl⟩
    obtain ⟨_, w, hw, hl⟩ := fl k hk
    rw [hl.2.1]; exact hw
  · intro hw
    obtain ⟨k, hk, hl⟩ := h.1.2 w hw
    refine ⟨k, ?_, hl.2.1⟩
    rw [List.mem_filter, List.mem_range]
    refine ⟨hk, decide_eq_true ?_⟩
    rw [h.1.at1 hk hl, if_pos hw]
theorem ah_sort {σ : am_St} {S ws : List (List Int)} (hS : okS S) (h : ahA σ S ws) : rmA S (mt_rems S) ∧ (mt_rems S).Perm ws := by
  have p := List.mergeSort_perm ws (fun a b => decide (encN a ≤ encN b))
  have hs := List.pairwise_mergeSort (le := fun a b : List Int => decide (encN a ≤ encN b)) (fun a b c h1 h2 => by
    have := of_decide_eq_true h1
    have := of_decide_eq_true h2
    exact decide_eq_true (by omega)) (fun a b => by
    rcases Nat.le_total (encN a) (encN b) with z | z
    · rw [decide_eq_true z]; rfl
    · rw [decide_eq_true z, Bool.or_true]) ws
  have nd : (ws.mergeSort (fun a b => decide (encN a ≤ encN b))).Nodup := p.nodup_iff.mpr h.2.1
  have hA : rmA S (ws.mergeSort (fun a b => decide (encN a ≤ encN b))) := by
    refine ⟨fun w => p.mem_iff.trans (h.2.2 w), List.Pairwise.imp_of_mem (fun {a b} ha hb hab => ?_) (hs.and nd)⟩
    have h1 := of_decide_eq_true hab.1
    have oa := (Rem_ok hS ((h.2.2 a).mp (p.mem_iff.mp ha))).1
    have ob := (Rem_ok hS ((h.2.2 b).mp (p.mem_iff.mp hb))).1
    have hne : encN a ≠ encN b := fun z => hab.2 ((encN_inj oa ob).mp z)
    omega
  have e := mt_rems_eq hA
  rw [e]
  exact ⟨hA, p⟩
theorem srt_count : ∀ (l : List (List Int)), l.Pairwise (fun a b => encN a < encN b) → ∀ (i : Nat) (w : List Int), l[i]? = some w → l.countP (fun v => decide (encN v < encN w)) = i
  | [], _, i, w, h => by simp at h
  | a :: l, hp, i, w, h => by
    obtain ⟨p1, p2⟩ := List.pairwise_cons.mp hp
    rw [List.countP_cons]
    rcases i with _ | i
    · rw [List.getElem?_cons_zero] at h
      have e := Option.some.inj h
      subst e
      rw [if_neg (by simp), List.countP_eq_zero.mpr (fun v hv => ?_)]
      have := p1 v hv
      simp only [decide_eq_true_eq]
      omega
    · rw [List.getElem?_cons_succ] at h
      have := p1 w (List.mem_of_getElem? h)
      rw [srt_count l p2 i w h, if_pos (decide_eq_true this)]
def ahc (σ : am_St) (S : List (List Int)) (j n : Nat) : Nat := (List.range n).countP (fun e => ahb σ e && decide (encN (pt S e) < encN (pt S j)))
theorem ahc_step {σ : am_St} {S : List (List Int)} {j n : Nat} : ahc σ S j (n + 1) = ahc σ S j n + (if σ.2.2 16 (n : Int) = 1 ∧ encN (pt S n) < encN (pt S j) then 1 else 0) := by
  unfold ahc
  rw [List.range_succ, List.countP_append, List.countP_singleton]
  congr 1
  unfold ahb
  by_cases h1 : σ.2.2 16 (n : Int) = 1 <;> by_cases h2 : encN (pt S n) < encN (pt S j) <;> simp [h1, h2]
theorem ahc_le {σ : am_St} {S : List (List Int)} {j n : Nat} : ahc σ S j n ≤ n := by
  unfold ahc
  have := List.countP_le_length (p := fun e => ahb σ e && decide (encN (pt S e) < encN (pt S j))) (l := List.range n)
  rw [List.length_range] at this
  exact this
theorem ahc_eq {σ : am_St} {S ws : List (List Int)} (hS : okS S) (h : ahA σ S ws) {j i : Nat} (hi : (mt_rems S)[i]? = some (pt S j)) : ahc σ S j 40 = i := by
  have hh := ah_sort hS h
  have e : ahc σ S j 40 = (((List.range 40).filter (ahb σ)).map (pt S)).countP (fun v => decide (encN v < encN (pt S j))) := by
    unfold ahc
    rw [List.countP_map, List.countP_filter]
    congr 1
    funext x
    rw [Bool.and_comm]
    rfl
  rw [e, ((ah_perm h).trans hh.2.symm).countP_eq]
  exact srt_count _ hh.1.2 i _ hi
theorem ev_X11_aheadsMany {σ : am_St} {L R : List (List Int)} {m : Nat} (h : tbM σ L R m) (hf : σ.1 0 29 = 0 ∨ σ.1 0 29 = 1) : am_Ev SH mX11_aheadsMany 7 [.ref 0] σ (am_rI (fun x σ2 => x = ((mt_rems (mt_sg R m)).length : Int) ∧ (∃ ws, ahA σ2 (mt_sg R m) ws) ∧ (σ2.1 0 29 = 0 ∨ σ2.1 0 29 = 1) ∧ fr [29] [16] σ σ2)) := by
  have hS : okS (mt_sg R m) := okS_sg h.2.2.2.2.2.2.2.2 h.2.2.2.2.2.1 m
  have loop : ∀ (σ1 : am_St) (ws : List (List Int)), ahA σ1 (mt_sg R m) ws → (σ1.1 0 29 = 0 ∨ σ1.1 0 29 = 1) → fr [29] [16] σ σ1 → ∀ (m2 : Nat) (k : Nat) (y : Nat), 40 - k < m2 → k ≤ 40 → y = (List.range k).countP (ahb σ1) → am_Go SH mX11_aheadsMany 7 (am_rI (fun x σ2 => x = ((mt_rems (mt_sg R m)).length : Int) ∧ (∃ ws, ahA σ2 (mt_sg R m) ws) ∧ (σ2.1 0 29 = 0 ∨ σ2.1 0 29 = 1) ∧ fr [29] [16] σ σ2)) 8 [some (.ref 0), some (.int (iZ (y : Int))), some (.int (iZ (k : Int)))] [] σ1 := by
    intro σ1 ws ha hf1 ho m2
    induction m2 with
    | zero => intro k y hm; exact absurd hm (by omega)
    | succ m2 ih =>
      intro k y hm hk hy
      by_cases hlt : k < 40
      · rcases ha.1.1 k hlt with ⟨e16, _⟩ | ⟨e16, _⟩
        · have e : y + 1 = (List.range (k + 1)).countP (ahb σ1) := by
            rw [List.range_succ, List.countP_append, ← hy, List.countP_singleton, if_pos (show ahb σ1 k = true from decide_eq_true e16)]
          refine go_iload_n dX11_aheadsMany_8 rfl ?_
          refine go_bipush dX11_aheadsMany_9 rfl ?_
          refine go_icmp_ge (tgt := 37) dX11_aheadsMany_11 (by decide) (by unfold inR; omega) (by unfold inR; omega) (fun b11 => ?_) (fun b11 => ?_)
          · skip
            omega
          · skip
            refine go_iload_n dX11_aheadsMany_14 rfl ?_
            refine go_aload_n dX11_aheadsMany_15 rfl ?_
            refine go_getr fl_X11_55 dX11_aheadsMany_16 sh_0 rfl ?_
            refine go_iload_n dX11_aheadsMany_19 rfl ?_
            refine go_baload dX11_aheadsMany_20 (by first | assumption | rfl) (by first | assumption | exact Nat.le_of_ble_eq_true rfl) (by omega) (by omega) ?_
            first | (rw [e16]) | skip
            refine go_if_eq (tgt := 28) dX11_aheadsMany_21 (by decide) (by unfold inR; omega) (fun b21 => ?_) (fun b21 => ?_)
            · skip
              exact absurd b21 (by decide)
            · skip
              refine go_iconst dX11_aheadsMany_24 ?_
              refine go_goto (tgt := 29) dX11_aheadsMany_25 (by decide) ?_
              refine go_iadd dX11_aheadsMany_29 ?_
              refine go_ist1 dX11_aheadsMany_30 (Nat.le_of_ble_eq_true rfl) rfl ?_
              refine go_inc2 dX11_aheadsMany_31 (Nat.le_of_ble_eq_true rfl) rfl ?_
              refine go_goto (tgt := 8) dX11_aheadsMany_34 (by decide) ?_
              exact ih (k + 1) (y + 1) (by omega) (by omega) e
        · have e : y + 0 = (List.range (k + 1)).countP (ahb σ1) := by
            rw [List.range_succ, List.countP_append, ← hy, List.countP_singleton, if_neg (show ¬ ahb σ1 k = true from fun z => by have := of_decide_eq_true z; rw [e16] at this; exact absurd this (by decide))]
          refine go_iload_n dX11_aheadsMany_8 rfl ?_
          refine go_bipush dX11_aheadsMany_9 rfl ?_
          refine go_icmp_ge (tgt := 37) dX11_aheadsMany_11 (by decide) (by unfold inR; omega) (by unfold inR; omega) (fun b11 => ?_) (fun b11 => ?_)
          · skip
            omega
          · skip
            refine go_iload_n dX11_aheadsMany_14 rfl ?_
            refine go_aload_n dX11_aheadsMany_15 rfl ?_
            refine go_getr fl_X11_55 dX11_aheadsMany_16 sh_0 rfl ?_
            refine go_iload_n dX11_aheadsMany_19 rfl ?_
            refine go_baload dX11_aheadsMany_20 (by first | assumption | rfl) (by first | assumption | exact Nat.le_of_ble_eq_true rfl) (by omega) (by omega) ?_
            first | (rw [e16]) | skip
            refine go_if_eq (tgt := 28) dX11_aheadsMany_21 (by decide) (by unfold inR; omega) (fun b21 => ?_) (fun b21 => ?_)
            · skip
              refine go_iconst dX11_aheadsMany_28 ?_
              refine go_iadd dX11_aheadsMany_29 ?_
              refine go_ist1 dX11_aheadsMany_30 (Nat.le_of_ble_eq_true rfl) rfl ?_
              refine go_inc2 dX11_aheadsMany_31 (Nat.le_of_ble_eq_true rfl) rfl ?_
              refine go_goto (tgt := 8) dX11_aheadsMany_34 (by decide) ?_
              exact ih (k + 1) (y + 0) (by omega) (by omega) e
            · skip
              exact absurd rfl b21
      · have e40 : k = 40 := by omega
        have hx : y = (mt_rems (mt_sg R m)).length := by
          have q := ((ah_perm ha).trans (ah_sort hS ha).2.symm).length_eq
          rw [List.length_map, ← List.countP_eq_length_filter] at q
          rw [hy, e40, q]
        refine go_iload_n dX11_aheadsMany_8 rfl ?_
        refine go_bipush dX11_aheadsMany_9 rfl ?_
        refine go_icmp_ge (tgt := 37) dX11_aheadsMany_11 (by decide) (by unfold inR; omega) (by unfold inR; omega) (fun b11 => ?_) (fun b11 => ?_)
        · skip
          refine go_iload_n dX11_aheadsMany_37 rfl ?_
          refine go_retI dX11_aheadsMany_38 rfl ?_
          exact ⟨by rw [hx], ⟨ws, ha⟩, hf1, ho⟩
        · skip
          omega
  refine am_ev (by decide) [some (.ref 0), none, none] rfl (Nat.le_of_ble_eq_true rfl) ?_
  refine go_aload_n dX11_aheadsMany_0 rfl ?_
  refine go_cvV0 (M2 := mX11_layAheads) dX11_aheadsMany_1 ml_X11_239 mv_X11_layAheads sh_0 rfl rfl (Nat.le_of_ble_eq_true rfl) (by decide) (ev_X11_layAheads h hf) (fun σ1 hq => ?_)
  obtain ⟨⟨ws, ha⟩, hf1, ho⟩ := hq
  refine go_iconst dX11_aheadsMany_4 ?_
  refine go_ist1 dX11_aheadsMany_5 (Nat.le_of_ble_eq_true rfl) rfl ?_
  refine go_iconst dX11_aheadsMany_6 ?_
  refine go_ist2 dX11_aheadsMany_7 (Nat.le_of_ble_eq_true rfl) rfl ?_
  exact loop σ1 ws ha hf1 ho 41 0 0 (by omega) (by omega) rfl
theorem ev_X11_isBefore {σ : am_St} {L R : List (List Int)} {m a b : Nat} (h : tbM σ L R m) (ha : okp (mt_sg R m) a) (hb : okp (mt_sg R m) b) : am_Ev SH mX11_isBefore 2 [.ref 0, .int (iZ (a : Int)), .int (iZ (b : Int))] σ (am_rI (fun x σ2 => x = (if encN (pt (mt_sg R m) a) < encN (pt (mt_sg R m) b) then 1 else 0) ∧ σ2 = σ)) := by
  have h4a := (h.pk a).2
  have h4b := (h.pk b).2
  have ra := okl_R (h.pk a).1
  have rb := okl_R (h.pk b).1
  have hlt := encN_lt (h.pk a).1 (h.pk b).1
  have sla := ev_X11_lengthOf h ha
  have slb := ev_X11_lengthOf h hb
  have saa := fun i => ev_X11_letterOf (i := i) h ha
  have sab := fun i => ev_X11_letterOf (i := i) h hb
  generalize hA : pt (mt_sg R m) a = A at *
  generalize hB : pt (mt_sg R m) b = B at *
  have loop : ∀ (m2 : Nat) (i : Nat), A.length - i < m2 → i ≤ A.length → A.length = B.length → (∀ j, j < i → A[j]? = B[j]?) → am_Go SH mX11_isBefore 2 (am_rI (fun x σ2 => x = (if encN A < encN B then 1 else 0) ∧ σ2 = σ)) 34 [some (.ref 0), some (.int (iZ (a : Int))), some (.int (iZ (b : Int))), some (.int (iZ (i : Int)))] [] σ := by
    intro m2
    induction m2 with
    | zero => intro i hm; exact absurd hm (by omega)
    | succ m2 ih =>
      intro i hm hi hl hin
      refine go_iload_n dX11_isBefore_34 rfl ?_
      refine go_aload_n dX11_isBefore_35 rfl ?_
      refine go_iload_n dX11_isBefore_36 rfl ?_
      refine go_cvP1 (M2 := mX11_lengthOf) dX11_isBefore_37 ml_X11_207 mv_X11_lengthOf sh_0 rfl rfl (Nat.le_of_ble_eq_true rfl) (by decide) (sla) ?_
      refine go_icmp_ge (tgt := 85) dX11_isBefore_40 (by decide) (by unfold inR; omega) (by unfold inR; omega) (fun b40 => ?_) (fun b40 => ?_)
      · skip
        refine go_iconst dX11_isBefore_85 ?_
        refine go_retZ dX11_isBefore_86 rfl (by omega) ?_
        exact ⟨by rw [if_neg (fun z => bf_eq hl (fun j hj => hin j (by omega)) (hlt.mp z))], rfl⟩
      · skip
        refine go_aload_n dX11_isBefore_43 rfl ?_
        refine go_iload_n dX11_isBefore_44 rfl ?_
        refine go_iload_n dX11_isBefore_45 rfl ?_
        refine go_cvP2 (M2 := mX11_letterOf) dX11_isBefore_46 ml_X11_210 mv_X11_letterOf sh_0 rfl rfl (Nat.le_of_ble_eq_true rfl) (by decide) (saa i (by omega)) ?_
        refine go_aload_n dX11_isBefore_49 rfl ?_
        refine go_iload_n dX11_isBefore_50 rfl ?_
        refine go_iload_n dX11_isBefore_51 rfl ?_
        refine go_cvP2 (M2 := mX11_letterOf) dX11_isBefore_52 ml_X11_210 mv_X11_letterOf sh_0 rfl rfl (Nat.le_of_ble_eq_true rfl) (by decide) (sab i (by omega)) ?_
        refine go_icmp_eq (tgt := 79) dX11_isBefore_55 (by decide) (ln_at_R ra) (ln_at_R rb) (fun b55 => ?_) (fun b55 => ?_)
        · skip
          refine go_inc3 dX11_isBefore_79 (Nat.le_of_ble_eq_true rfl) rfl ?_
          refine go_goto (tgt := 34) dX11_isBefore_82 (by decide) ?_
          exact ih (i + 1) (by omega) (by omega) hl (bf_nx hl hin (by omega) b55)
        · skip
          refine go_aload_n dX11_isBefore_58 rfl ?_
          refine go_iload_n dX11_isBefore_59 rfl ?_
          refine go_iload_n dX11_isBefore_60 rfl ?_
          refine go_cvP2 (M2 := mX11_letterOf) dX11_isBefore_61 ml_X11_210 mv_X11_letterOf sh_0 rfl rfl (Nat.le_of_ble_eq_true rfl) (by decide) (saa i (by omega)) ?_
          refine go_aload_n dX11_isBefore_64 rfl ?_
          refine go_iload_n dX11_isBefore_65 rfl ?_
          refine go_iload_n dX11_isBefore_66 rfl ?_
          refine go_cvP2 (M2 := mX11_letterOf) dX11_isBefore_67 ml_X11_210 mv_X11_letterOf sh_0 rfl rfl (Nat.le_of_ble_eq_true rfl) (by decide) (sab i (by omega)) ?_
          refine go_icmp_ge (tgt := 77) dX11_isBefore_70 (by decide) (ln_at_R ra) (ln_at_R rb) (fun b70 => ?_) (fun b70 => ?_)
          · skip
            refine go_iconst dX11_isBefore_77 ?_
            refine go_retZ dX11_isBefore_78 rfl (by omega) ?_
            refine ⟨?_, rfl⟩
            have hx := hlt.trans (bf_at hl hin (by omega) b55)
            first | (rw [if_pos (hx.mpr (by omega))]; done) | (rw [if_neg (fun z => absurd (hx.mp z) (by omega))]; done)
          · skip
            refine go_iconst dX11_isBefore_73 ?_
            refine go_goto (tgt := 78) dX11_isBefore_74 (by decide) ?_
            refine go_retZ dX11_isBefore_78 rfl (by omega) ?_
            refine ⟨?_, rfl⟩
            have hx := hlt.trans (bf_at hl hin (by omega) b55)
            first | (rw [if_pos (hx.mpr (by omega))]; done) | (rw [if_neg (fun z => absurd (hx.mp z) (by omega))]; done)
  refine am_ev (by decide) [some (.ref 0), some (.int (iZ ((a : Int)))), some (.int (iZ ((b : Int)))), none] rfl (Nat.le_of_ble_eq_true rfl) ?_
  refine go_aload_n dX11_isBefore_0 rfl ?_
  refine go_iload_n dX11_isBefore_1 rfl ?_
  refine go_cvP1 (M2 := mX11_lengthOf) dX11_isBefore_2 ml_X11_207 mv_X11_lengthOf sh_0 rfl rfl (Nat.le_of_ble_eq_true rfl) (by decide) (sla) ?_
  refine go_aload_n dX11_isBefore_5 rfl ?_
  refine go_iload_n dX11_isBefore_6 rfl ?_
  refine go_cvP1 (M2 := mX11_lengthOf) dX11_isBefore_7 ml_X11_207 mv_X11_lengthOf sh_0 rfl rfl (Nat.le_of_ble_eq_true rfl) (by decide) (slb) ?_
  refine go_icmp_eq (tgt := 32) dX11_isBefore_10 (by decide) (by unfold inR; omega) (by unfold inR; omega) (fun b10 => ?_) (fun b10 => ?_)
  · skip
    refine go_iconst dX11_isBefore_32 ?_
    refine go_ist3 dX11_isBefore_33 (Nat.le_of_ble_eq_true rfl) rfl ?_
    exact loop (A.length + 1) 0 (by omega) (by omega) (by omega) (fun j hj => absurd hj (by omega))
  · skip
    refine go_aload_n dX11_isBefore_13 rfl ?_
    refine go_iload_n dX11_isBefore_14 rfl ?_
    refine go_cvP1 (M2 := mX11_lengthOf) dX11_isBefore_15 ml_X11_207 mv_X11_lengthOf sh_0 rfl rfl (Nat.le_of_ble_eq_true rfl) (by decide) (sla) ?_
    refine go_aload_n dX11_isBefore_18 rfl ?_
    refine go_iload_n dX11_isBefore_19 rfl ?_
    refine go_cvP1 (M2 := mX11_lengthOf) dX11_isBefore_20 ml_X11_207 mv_X11_lengthOf sh_0 rfl rfl (Nat.le_of_ble_eq_true rfl) (by decide) (slb) ?_
    refine go_icmp_ge (tgt := 30) dX11_isBefore_23 (by decide) (by unfold inR; omega) (by unfold inR; omega) (fun b23 => ?_) (fun b23 => ?_)
    · skip
      refine go_iconst dX11_isBefore_30 ?_
      refine go_retZ dX11_isBefore_31 rfl (by omega) ?_
      refine ⟨?_, rfl⟩
      have hx := hlt.trans (bf_len (A := A) (B := B) (by omega))
      first | (rw [if_pos (hx.mpr (by omega))]; done) | (rw [if_neg (fun z => absurd (hx.mp z) (by omega))]; done)
    · skip
      refine go_iconst dX11_isBefore_26 ?_
      refine go_goto (tgt := 31) dX11_isBefore_27 (by decide) ?_
      refine go_retZ dX11_isBefore_31 rfl (by omega) ?_
      refine ⟨?_, rfl⟩
      have hx := hlt.trans (bf_len (A := A) (B := B) (by omega))
      first | (rw [if_pos (hx.mpr (by omega))]; done) | (rw [if_neg (fun z => absurd (hx.mp z) (by omega))]; done)
theorem ev_X11_aheadOf {σ : am_St} {L R ws : List (List Int)} {m : Nat} {n : Int} (h : tbM σ L R m) (ha : ahA σ (mt_sg R m) ws) (hn : inR n) : am_Ev SH mX11_aheadOf 3 [.ref 0, .int (iZ n)] σ (am_rI (fun x σ2 => ((x = -1 ∧ (n < 0 ∨ ((mt_rems (mt_sg R m)).length : Int) ≤ n)) ∨ ∃ k : Nat, x = (k : Int) ∧ k < 40 ∧ okp (mt_sg R m) k ∧ 0 ≤ n ∧ (mt_rems (mt_sg R m))[n.toNat]? = some (pt (mt_sg R m) k)) ∧ σ2 = σ)) := by
  have hS : okS (mt_sg R m) := okS_sg h.2.2.2.2.2.2.2.2 h.2.2.2.2.2.1 m
  have hsr := ah_sort hS ha
  generalize hQ : (am_rI (fun x σ2 => ((x = -1 ∧ (n < 0 ∨ ((mt_rems (mt_sg R m)).length : Int) ≤ n)) ∨ ∃ k : Nat, x = (k : Int) ∧ k < 40 ∧ okp (mt_sg R m) k ∧ 0 ≤ n ∧ (mt_rems (mt_sg R m))[n.toNat]? = some (pt (mt_sg R m) k)) ∧ σ2 = σ)) = Q
  have loop : ∀ (m2 : Nat) (k : Nat) (o3 o4 : Option Value), 40 - k < m2 → k ≤ 40 → (∀ j : Nat, j < k → σ.2.2 16 (j : Int) = 1 → ¬ (ahc σ (mt_sg R m) j 40 : Int) = n) → am_Go SH mX11_aheadOf 3 Q 2 [some (.ref 0), some (.int (iZ n)), some (.int (iZ (k : Int))), o3, o4] [] σ := by
    intro m2
    induction m2 with
    | zero => intro k o3 o4 hm; exact absurd hm (by omega)
    | succ m2 ih =>
      intro k o3 o4 hm hk hd
      by_cases hlt : k < 40
      · rcases ha.1.1 k hlt with ⟨fk, wk, hwk, hlk⟩ | ⟨fk, hno⟩
        · have inner : ∀ (m3 : Nat) (e : Nat), 40 - e < m3 → e ≤ 40 → am_Go SH mX11_aheadOf 3 Q 13 [some (.ref 0), some (.int (iZ n)), some (.int (iZ (k : Int))), some (.int (iZ (ahc σ (mt_sg R m) k e : Int))), some (.int (iZ (e : Int)))] [] σ := by
            intro m3
            induction m3 with
            | zero => intro e hm3; exact absurd hm3 (by omega)
            | succ m3 ih3 =>
              intro e hm3 he
              by_cases hlte : e < 40
              · rcases ha.1.1 e hlte with ⟨fe, we, hwe, hle⟩ | ⟨fe, hnoe⟩
                · by_cases hbf : encN (pt (mt_sg R m) e) < encN (pt (mt_sg R m) k)
                  · have q := ih3 (e + 1) (by omega) (by omega)
                    rw [ahc_step, if_pos ⟨fe, hbf⟩] at q
                    refine go_iload dX11_aheadOf_13 rfl ?_
                    refine go_bipush dX11_aheadOf_15 rfl ?_
                    refine go_icmp_ge (tgt := 63) dX11_aheadOf_17 (by decide) (by unfold inR; omega) (by unfold inR; omega) (fun b17 => ?_) (fun b17 => ?_)
                    · skip
                      omega
                    · skip
                      refine go_aload_n dX11_aheadOf_20 rfl ?_
                      refine go_getr fl_X11_55 dX11_aheadOf_21 sh_0 rfl ?_
                      refine go_iload_n dX11_aheadOf_24 rfl ?_
                      refine go_baload dX11_aheadOf_25 (by first | assumption | rfl) (by first | assumption | exact Nat.le_of_ble_eq_true rfl) (by omega) (by omega) ?_
                      first | (rw [fk]) | (rw [fe]) | skip
                      refine go_if_eq (tgt := 63) dX11_aheadOf_26 (by decide) (by unfold inR; omega) (fun b26 => ?_) (fun b26 => ?_)
                      · skip
                        exact absurd b26 (by decide)
                      · skip
                        refine go_iload_n dX11_aheadOf_29 rfl ?_
                        refine go_aload_n dX11_aheadOf_30 rfl ?_
                        refine go_getr fl_X11_55 dX11_aheadOf_31 sh_0 rfl ?_
                        refine go_iload dX11_aheadOf_34 rfl ?_
                        refine go_baload dX11_aheadOf_36 (by first | assumption | rfl) (by first | assumption | exact Nat.le_of_ble_eq_true rfl) (by omega) (by omega) ?_
                        first | (rw [fk]) | (rw [fe]) | skip
                        refine go_if_eq (tgt := 54) dX11_aheadOf_37 (by decide) (by unfold inR; omega) (fun b37 => ?_) (fun b37 => ?_)
                        · skip
                          exact absurd b37 (by decide)
                        · skip
                          refine go_aload_n dX11_aheadOf_40 rfl ?_
                          refine go_iload dX11_aheadOf_41 rfl ?_
                          refine go_iload_n dX11_aheadOf_43 rfl ?_
                          refine go_cvP2 (M2 := mX11_isBefore) dX11_aheadOf_44 ml_X11_242 mv_X11_isBefore sh_0 rfl rfl (Nat.le_of_ble_eq_true rfl) (by decide) (ev_X11_isBefore h hle.1 hlk.1) ?_
                          rw [if_pos hbf]
                          refine go_if_eq (tgt := 54) dX11_aheadOf_47 (by decide) (by unfold inR; omega) (fun b47 => ?_) (fun b47 => ?_)
                          · skip
                            exact absurd b47 (by decide)
                          · skip
                            refine go_iconst dX11_aheadOf_50 ?_
                            refine go_goto (tgt := 55) dX11_aheadOf_51 (by decide) ?_
                            refine go_iadd dX11_aheadOf_55 ?_
                            refine go_ist3 dX11_aheadOf_56 (Nat.le_of_ble_eq_true rfl) rfl ?_
                            refine go_inc4 dX11_aheadOf_57 (Nat.le_of_ble_eq_true rfl) rfl ?_
                            refine go_goto (tgt := 13) dX11_aheadOf_60 (by decide) ?_
                            exact q
                  · have q := ih3 (e + 1) (by omega) (by omega)
                    rw [ahc_step, if_neg (fun z => hbf z.2)] at q
                    refine go_iload dX11_aheadOf_13 rfl ?_
                    refine go_bipush dX11_aheadOf_15 rfl ?_
                    refine go_icmp_ge (tgt := 63) dX11_aheadOf_17 (by decide) (by unfold inR; omega) (by unfold inR; omega) (fun b17 => ?_) (fun b17 => ?_)
                    · skip
                      omega
                    · skip
                      refine go_aload_n dX11_aheadOf_20 rfl ?_
                      refine go_getr fl_X11_55 dX11_aheadOf_21 sh_0 rfl ?_
                      refine go_iload_n dX11_aheadOf_24 rfl ?_
                      refine go_baload dX11_aheadOf_25 (by first | assumption | rfl) (by first | assumption | exact Nat.le_of_ble_eq_true rfl) (by omega) (by omega) ?_
                      first | (rw [fk]) | (rw [fe]) | skip
                      refine go_if_eq (tgt := 63) dX11_aheadOf_26 (by decide) (by unfold inR; omega) (fun b26 => ?_) (fun b26 => ?_)
                      · skip
                        exact absurd b26 (by decide)
                      · skip
                        refine go_iload_n dX11_aheadOf_29 rfl ?_
                        refine go_aload_n dX11_aheadOf_30 rfl ?_
                        refine go_getr fl_X11_55 dX11_aheadOf_31 sh_0 rfl ?_
                        refine go_iload dX11_aheadOf_34 rfl ?_
                        refine go_baload dX11_aheadOf_36 (by first | assumption | rfl) (by first | assumption | exact Nat.le_of_ble_eq_true rfl) (by omega) (by omega) ?_
                        first | (rw [fk]) | (rw [fe]) | skip
                        refine go_if_eq (tgt := 54) dX11_aheadOf_37 (by decide) (by unfold inR; omega) (fun b37 => ?_) (fun b37 => ?_)
                        · skip
                          exact absurd b37 (by decide)
                        · skip
                          refine go_aload_n dX11_aheadOf_40 rfl ?_
                          refine go_iload dX11_aheadOf_41 rfl ?_
                          refine go_iload_n dX11_aheadOf_43 rfl ?_
                          refine go_cvP2 (M2 := mX11_isBefore) dX11_aheadOf_44 ml_X11_242 mv_X11_isBefore sh_0 rfl rfl (Nat.le_of_ble_eq_true rfl) (by decide) (ev_X11_isBefore h hle.1 hlk.1) ?_
                          rw [if_neg hbf]
                          refine go_if_eq (tgt := 54) dX11_aheadOf_47 (by decide) (by unfold inR; omega) (fun b47 => ?_) (fun b47 => ?_)
                          · skip
                            refine go_iconst dX11_aheadOf_54 ?_
                            refine go_iadd dX11_aheadOf_55 ?_
                            refine go_ist3 dX11_aheadOf_56 (Nat.le_of_ble_eq_true rfl) rfl ?_
                            refine go_inc4 dX11_aheadOf_57 (Nat.le_of_ble_eq_true rfl) rfl ?_
                            refine go_goto (tgt := 13) dX11_aheadOf_60 (by decide) ?_
                            exact q
                          · skip
                            exact absurd rfl b47
                · have q := ih3 (e + 1) (by omega) (by omega)
                  rw [ahc_step, if_neg (fun z => by rw [fe] at z; exact absurd z.1 (by decide))] at q
                  refine go_iload dX11_aheadOf_13 rfl ?_
                  refine go_bipush dX11_aheadOf_15 rfl ?_
                  refine go_icmp_ge (tgt := 63) dX11_aheadOf_17 (by decide) (by unfold inR; omega) (by unfold inR; omega) (fun b17 => ?_) (fun b17 => ?_)
                  · skip
                    omega
                  · skip
                    refine go_aload_n dX11_aheadOf_20 rfl ?_
                    refine go_getr fl_X11_55 dX11_aheadOf_21 sh_0 rfl ?_
                    refine go_iload_n dX11_aheadOf_24 rfl ?_
                    refine go_baload dX11_aheadOf_25 (by first | assumption | rfl) (by first | assumption | exact Nat.le_of_ble_eq_true rfl) (by omega) (by omega) ?_
                    first | (rw [fk]) | (rw [fe]) | skip
                    refine go_if_eq (tgt := 63) dX11_aheadOf_26 (by decide) (by unfold inR; omega) (fun b26 => ?_) (fun b26 => ?_)
                    · skip
                      exact absurd b26 (by decide)
                    · skip
                      refine go_iload_n dX11_aheadOf_29 rfl ?_
                      refine go_aload_n dX11_aheadOf_30 rfl ?_
                      refine go_getr fl_X11_55 dX11_aheadOf_31 sh_0 rfl ?_
                      refine go_iload dX11_aheadOf_34 rfl ?_
                      refine go_baload dX11_aheadOf_36 (by first | assumption | rfl) (by first | assumption | exact Nat.le_of_ble_eq_true rfl) (by omega) (by omega) ?_
                      first | (rw [fk]) | (rw [fe]) | skip
                      refine go_if_eq (tgt := 54) dX11_aheadOf_37 (by decide) (by unfold inR; omega) (fun b37 => ?_) (fun b37 => ?_)
                      · skip
                        refine go_iconst dX11_aheadOf_54 ?_
                        refine go_iadd dX11_aheadOf_55 ?_
                        refine go_ist3 dX11_aheadOf_56 (Nat.le_of_ble_eq_true rfl) rfl ?_
                        refine go_inc4 dX11_aheadOf_57 (Nat.le_of_ble_eq_true rfl) rfl ?_
                        refine go_goto (tgt := 13) dX11_aheadOf_60 (by decide) ?_
                        exact q
                      · skip
                        exact absurd rfl b37
              · have e40 : e = 40 := by omega
                subst e40
                have hle := ahc_le (σ := σ) (S := mt_sg R m) (j := k) (n := 40)
                refine go_iload dX11_aheadOf_13 rfl ?_
                refine go_bipush dX11_aheadOf_15 rfl ?_
                refine go_icmp_ge (tgt := 63) dX11_aheadOf_17 (by decide) (by unfold inR; omega) (by unfold inR; omega) (fun b17 => ?_) (fun b17 => ?_)
                · skip
                  refine go_aload_n dX11_aheadOf_63 rfl ?_
                  refine go_getr fl_X11_55 dX11_aheadOf_64 sh_0 rfl ?_
                  refine go_iload_n dX11_aheadOf_67 rfl ?_
                  refine go_baload dX11_aheadOf_68 (by first | assumption | rfl) (by first | assumption | exact Nat.le_of_ble_eq_true rfl) (by omega) (by omega) ?_
                  first | (rw [fk]) | skip
                  refine go_if_eq (tgt := 79) dX11_aheadOf_69 (by decide) (by unfold inR; omega) (fun b69 => ?_) (fun b69 => ?_)
                  · skip
                    exact absurd b69 (by decide)
                  · skip
                    refine go_iload_n dX11_aheadOf_72 rfl ?_
                    refine go_iload_n dX11_aheadOf_73 rfl ?_
                    refine go_icmp_ne (tgt := 79) dX11_aheadOf_74 (by decide) (by unfold inR; omega) hn (fun b74 => ?_) (fun b74 => ?_)
                    · skip
                      refine go_inc2 dX11_aheadOf_79 (Nat.le_of_ble_eq_true rfl) rfl ?_
                      refine go_goto (tgt := 2) dX11_aheadOf_82 (by decide) ?_
                      refine ih (k + 1) _ _ (by omega) (by omega) (fun j hj hfj => ?_)
                      by_cases e : j = k
                      · subst e; exact b74
                      · exact hd j (by omega) hfj
                    · skip
                      refine go_iload_n dX11_aheadOf_77 rfl ?_
                      subst hQ
                      refine go_retI dX11_aheadOf_78 rfl ?_
                      refine ⟨Or.inr ⟨k, rfl, hlt, hlk.1, by omega, ?_⟩, rfl⟩
                      have hmem : pt (mt_sg R m) k ∈ mt_rems (mt_sg R m) := by rw [hlk.2.1]; exact hsr.2.mem_iff.mpr hwk
                      obtain ⟨i, hi, hie⟩ := List.mem_iff_getElem.mp hmem
                      have hi2 : (mt_rems (mt_sg R m))[i]? = some (pt (mt_sg R m) k) := by rw [← hie]; exact List.getElem?_eq_getElem hi
                      have := ahc_eq hS ha hi2
                      rw [show n.toNat = i by omega]; exact hi2
                · skip
                  omega
          refine go_iload_n dX11_aheadOf_2 rfl ?_
          refine go_bipush dX11_aheadOf_3 rfl ?_
          refine go_icmp_ge (tgt := 85) dX11_aheadOf_5 (by decide) (by unfold inR; omega) (by unfold inR; omega) (fun b5 => ?_) (fun b5 => ?_)
          · skip
            omega
          · skip
            refine go_iconst dX11_aheadOf_8 ?_
            refine go_ist3 dX11_aheadOf_9 (Nat.le_of_ble_eq_true rfl) rfl ?_
            refine go_iconst dX11_aheadOf_10 ?_
            refine go_ist4 dX11_aheadOf_11 (Nat.le_of_ble_eq_true rfl) rfl ?_
            exact inner 41 0 (by omega) (by omega)
        · skip
          refine go_iload_n dX11_aheadOf_2 rfl ?_
          refine go_bipush dX11_aheadOf_3 rfl ?_
          refine go_icmp_ge (tgt := 85) dX11_aheadOf_5 (by decide) (by unfold inR; omega) (by unfold inR; omega) (fun b5 => ?_) (fun b5 => ?_)
          · skip
            omega
          · skip
            refine go_iconst dX11_aheadOf_8 ?_
            refine go_ist3 dX11_aheadOf_9 (Nat.le_of_ble_eq_true rfl) rfl ?_
            refine go_iconst dX11_aheadOf_10 ?_
            refine go_ist4 dX11_aheadOf_11 (Nat.le_of_ble_eq_true rfl) rfl ?_
            refine go_iload dX11_aheadOf_13 rfl ?_
            refine go_bipush dX11_aheadOf_15 rfl ?_
            refine go_icmp_ge (tgt := 63) dX11_aheadOf_17 (by decide) (by unfold inR; omega) (by unfold inR; omega) (fun b17 => ?_) (fun b17 => ?_)
            · skip
              exact absurd b17 (by decide)
            · skip
              refine go_aload_n dX11_aheadOf_20 rfl ?_
              refine go_getr fl_X11_55 dX11_aheadOf_21 sh_0 rfl ?_
              refine go_iload_n dX11_aheadOf_24 rfl ?_
              refine go_baload dX11_aheadOf_25 (by first | assumption | rfl) (by first | assumption | exact Nat.le_of_ble_eq_true rfl) (by omega) (by omega) ?_
              first | (rw [fk]) | skip
              refine go_if_eq (tgt := 63) dX11_aheadOf_26 (by decide) (by unfold inR; omega) (fun b26 => ?_) (fun b26 => ?_)
              · skip
                refine go_aload_n dX11_aheadOf_63 rfl ?_
                refine go_getr fl_X11_55 dX11_aheadOf_64 sh_0 rfl ?_
                refine go_iload_n dX11_aheadOf_67 rfl ?_
                refine go_baload dX11_aheadOf_68 (by first | assumption | rfl) (by first | assumption | exact Nat.le_of_ble_eq_true rfl) (by omega) (by omega) ?_
                first | (rw [fk]) | skip
                refine go_if_eq (tgt := 79) dX11_aheadOf_69 (by decide) (by unfold inR; omega) (fun b69 => ?_) (fun b69 => ?_)
                · skip
                  refine go_inc2 dX11_aheadOf_79 (Nat.le_of_ble_eq_true rfl) rfl ?_
                  refine go_goto (tgt := 2) dX11_aheadOf_82 (by decide) ?_
                  refine ih (k + 1) _ _ (by omega) (by omega) (fun j hj hfj => ?_)
                  by_cases e : j = k
                  · subst e; rw [fk] at hfj; exact absurd hfj (by decide)
                  · exact hd j (by omega) hfj
                · skip
                  exact absurd rfl b69
              · skip
                exact absurd rfl b26
      · skip
        refine go_iload_n dX11_aheadOf_2 rfl ?_
        refine go_bipush dX11_aheadOf_3 rfl ?_
        refine go_icmp_ge (tgt := 85) dX11_aheadOf_5 (by decide) (by unfold inR; omega) (by unfold inR; omega) (fun b5 => ?_) (fun b5 => ?_)
        · skip
          refine go_iconst dX11_aheadOf_85 ?_
          subst hQ
          refine go_retI dX11_aheadOf_86 rfl ?_
          refine ⟨Or.inl ⟨rfl, ?_⟩, rfl⟩
          by_cases hc : n < 0 ∨ ((mt_rems (mt_sg R m)).length : Int) ≤ n
          · exact hc
          · exfalso
            have hi : n.toNat < (mt_rems (mt_sg R m)).length := by omega
            have hmem : (mt_rems (mt_sg R m))[n.toNat] ∈ ws := hsr.2.mem_iff.mp (List.getElem_mem hi)
            obtain ⟨j, hj, hjl⟩ := ha.1.2 _ hmem
            have hi2 : (mt_rems (mt_sg R m))[n.toNat]? = some (pt (mt_sg R m) j) := by rw [hjl.2.1]; exact List.getElem?_eq_getElem hi
            have e1 := ahc_eq hS ha hi2
            exact hd j (by omega) (by rw [ha.1.at1 hj hjl, if_pos hmem]) (by omega)
        · skip
          omega
  refine am_ev (by decide) [some (.ref 0), some (.int (iZ (n))), none, none, none] rfl (Nat.le_of_ble_eq_true rfl) ?_
  refine go_iconst dX11_aheadOf_0 ?_
  refine go_ist2 dX11_aheadOf_1 (Nat.le_of_ble_eq_true rfl) rfl ?_
  exact loop 41 0 none none (by omega) (by omega) (fun j hj => absurd hj (by omega))
theorem ev_X11_ahead {σ : am_St} {s : mS} {a : Int} (h : RepM σ s) (ha : inR a) : am_Ev SH mX11_ahead 7 [.ref 0, .int (iZ a)] σ (am_rI (fun x σ2 => x = m_ahead s a ∧ RepM σ2 s ∧ am_off XM σ σ2)) := by
  refine am_ev (by decide) [some (.ref 0), some (.int (iZ (a))), none] rfl (Nat.le_of_ble_eq_true rfl) ?_
  refine go_aload_n dX11_ahead_0 rfl ?_
  refine go_cvV0 (M2 := mX11_layAheads) dX11_ahead_1 ml_X11_239 mv_X11_layAheads sh_0 rfl rfl (Nat.le_of_ble_eq_true rfl) (by decide) (ev_X11_layAheads h.1 h.2.2.2.2.2.2.2) (fun σ1 hq => ?_)
  obtain ⟨⟨ws, hA⟩, hf1, ho⟩ := hq
  have hr1 := h.fr29 ho (by decide) (by decide) hf1
  refine go_aload_n dX11_ahead_4 rfl ?_
  refine go_iload_n dX11_ahead_5 rfl ?_
  refine go_cvI1 (M2 := mX11_aheadOf) dX11_ahead_6 ml_X11_245 mv_X11_aheadOf sh_0 rfl rfl (Nat.le_of_ble_eq_true rfl) (by decide) (ev_X11_aheadOf hr1.1 hA ha) (fun x σ2 hq => ?_)
  obtain ⟨hx, rfl⟩ := hq
  have hxR : inR x := by rcases hx with z | ⟨k, z, z2, _⟩ <;> (unfold inR; omega)
  refine go_ist2 dX11_ahead_9 (Nat.le_of_ble_eq_true rfl) rfl ?_
  refine go_iload_n dX11_ahead_10 rfl ?_
  refine go_iconst dX11_ahead_11 ?_
  refine go_icmp_ne (tgt := 20) dX11_ahead_12 (by decide) hxR (by unfold inR; omega) (fun b12 => ?_) (fun b12 => ?_)
  · skip
    obtain ⟨k, rfl, hk4, hkp, hn0, hk⟩ := hx.resolve_left (fun z => b12 z.1)
    refine go_aload_n dX11_ahead_20 rfl ?_
    refine go_iload_n dX11_ahead_21 rfl ?_
    refine go_cvP1 (M2 := mX11_lengthOf) dX11_ahead_22 ml_X11_207 mv_X11_lengthOf sh_0 rfl rfl (Nat.le_of_ble_eq_true rfl) (by decide) (ev_X11_lengthOf hr1.1 hkp) ?_
    refine go_retI dX11_ahead_25 rfl ?_
    refine ⟨?_, hr1, ho.off (by decide)⟩
    unfold m_ahead
    first
      | (rcases hx with z | ⟨k, z, _⟩
         · rw [if_pos z.2]
         · exact absurd b12 (by omega))
      | (have hlt := (List.getElem?_eq_some_iff.mp hk).1
         rw [if_neg (by omega)]
         simp [List.getD, hk])
  · skip
    refine go_bipush dX11_ahead_15 rfl ?_
    refine go_goto (tgt := 25) dX11_ahead_17 (by decide) ?_
    refine go_retI dX11_ahead_25 rfl ?_
    refine ⟨?_, hr1, ho.off (by decide)⟩
    unfold m_ahead
    first
      | (rcases hx with z | ⟨k, z, _⟩
         · rw [if_pos z.2]
         · exact absurd b12 (by omega))
      | (have hlt := (List.getElem?_eq_some_iff.mp hk).1
         rw [if_neg (by omega)]
         simp [List.getD, hk])
theorem ev_X11_aheadAt {σ : am_St} {s : mS} {a p : Int} (h : RepM σ s) (ha : inR a) (hp : inR p) : am_Ev SH mX11_aheadAt 7 [.ref 0, .int (iZ a), .int (iZ p)] σ (am_rI (fun x σ2 => x = m_aheadAt s a p ∧ RepM σ2 s ∧ am_off XM σ σ2)) := by
  have fin : ∀ (σ1 : am_St) (ws : List (List Int)), RepM σ1 s → ahA σ1 (mt_sg s.2.1 s.2.2.1) ws → am_off XM σ σ1 → ∀ x : Int, ((x = -1 ∧ (a < 0 ∨ ((mt_rems (mt_sg s.2.1 s.2.2.1)).length : Int) ≤ a)) ∨ ∃ k : Nat, x = (k : Int) ∧ k < 40 ∧ okp (mt_sg s.2.1 s.2.2.1) k ∧ 0 ≤ a ∧ (mt_rems (mt_sg s.2.1 s.2.2.1))[a.toNat]? = some (pt (mt_sg s.2.1 s.2.2.1) k)) → am_Go SH mX11_aheadAt 7 (am_rI (fun x σ2 => x = m_aheadAt s a p ∧ RepM σ2 s ∧ am_off XM σ σ2)) 10 [some (.ref 0), some (.int (iZ a)), some (.int (iZ p)), some (.int (iZ x))] [] σ1 := by
    intro σ1 ws hr1 hA ho x hx
    rcases hx with ⟨rfl, hx⟩ | ⟨k, rfl, hk4, hkp, hn0, hk⟩
    · skip
      refine go_iload_n dX11_aheadAt_10 rfl ?_
      refine go_iconst dX11_aheadAt_11 ?_
      refine go_icmp_eq (tgt := 39) dX11_aheadAt_12 (by decide) (by unfold inR; omega) (by unfold inR; omega) (fun b12 => ?_) (fun b12 => ?_)
      · skip
        refine go_bipush dX11_aheadAt_39 rfl ?_
        refine go_retI dX11_aheadAt_41 rfl ?_
        refine ⟨?_, hr1, ho⟩
        unfold m_aheadAt
        rw [if_pos hx]
      · skip
        exact absurd rfl b12
    · have hlt := (List.getElem?_eq_some_iff.mp hk).1
      have l4 := (hr1.1.pk k).2
      have e : m_aheadAt s a p = ln_at (pt (mt_sg s.2.1 s.2.2.1) k) p := by
        unfold m_aheadAt
        rw [if_neg (by omega)]
        simp only [List.getD, hk]
        rfl
      by_cases hin : 0 ≤ p ∧ p < ((pt (mt_sg s.2.1 s.2.2.1) k).length : Int)
      · obtain ⟨j, rfl⟩ := Int.eq_ofNat_of_zero_le hin.1
        refine go_iload_n dX11_aheadAt_10 rfl ?_
        refine go_iconst dX11_aheadAt_11 ?_
        refine go_icmp_eq (tgt := 39) dX11_aheadAt_12 (by decide) (by unfold inR; omega) (by unfold inR; omega) (fun b12 => ?_) (fun b12 => ?_)
        · skip
          omega
        · skip
          refine go_iload_n dX11_aheadAt_15 rfl ?_
          refine go_iconst dX11_aheadAt_16 ?_
          refine go_aload_n dX11_aheadAt_17 rfl ?_
          refine go_iload_n dX11_aheadAt_18 rfl ?_
          refine go_cvP1 (M2 := mX11_lengthOf) dX11_aheadAt_19 ml_X11_207 mv_X11_lengthOf sh_0 rfl rfl (Nat.le_of_ble_eq_true rfl) (by decide) (ev_X11_lengthOf hr1.1 hkp) ?_
          refine go_iconst dX11_aheadAt_22 ?_
          refine go_isub dX11_aheadAt_23 ?_
          refine go_csP3 (M2 := mX11_within) dX11_aheadAt_24 ml_X11_71 ms_X11_within (Nat.le_of_ble_eq_true rfl) (by decide) (ev_X11_within hp (by unfold inR; omega) (by unfold inR; omega)) ?_
          rw [if_pos (by omega)]
          refine go_if_eq (tgt := 39) dX11_aheadAt_27 (by decide) (by unfold inR; omega) (fun b27 => ?_) (fun b27 => ?_)
          · skip
            exact absurd b27 (by decide)
          · skip
            refine go_aload_n dX11_aheadAt_30 rfl ?_
            refine go_iload_n dX11_aheadAt_31 rfl ?_
            refine go_iload_n dX11_aheadAt_32 rfl ?_
            refine go_cvP2 (M2 := mX11_letterOf) dX11_aheadAt_33 ml_X11_210 mv_X11_letterOf sh_0 rfl rfl (Nat.le_of_ble_eq_true rfl) (by decide) (ev_X11_letterOf hr1.1 hkp (by omega)) ?_
            refine go_goto (tgt := 41) dX11_aheadAt_36 (by decide) ?_
            refine go_retI dX11_aheadAt_41 rfl ?_
            exact ⟨e.symm, hr1, ho⟩
      · skip
        refine go_iload_n dX11_aheadAt_10 rfl ?_
        refine go_iconst dX11_aheadAt_11 ?_
        refine go_icmp_eq (tgt := 39) dX11_aheadAt_12 (by decide) (by unfold inR; omega) (by unfold inR; omega) (fun b12 => ?_) (fun b12 => ?_)
        · skip
          omega
        · skip
          refine go_iload_n dX11_aheadAt_15 rfl ?_
          refine go_iconst dX11_aheadAt_16 ?_
          refine go_aload_n dX11_aheadAt_17 rfl ?_
          refine go_iload_n dX11_aheadAt_18 rfl ?_
          refine go_cvP1 (M2 := mX11_lengthOf) dX11_aheadAt_19 ml_X11_207 mv_X11_lengthOf sh_0 rfl rfl (Nat.le_of_ble_eq_true rfl) (by decide) (ev_X11_lengthOf hr1.1 hkp) ?_
          refine go_iconst dX11_aheadAt_22 ?_
          refine go_isub dX11_aheadAt_23 ?_
          refine go_csP3 (M2 := mX11_within) dX11_aheadAt_24 ml_X11_71 ms_X11_within (Nat.le_of_ble_eq_true rfl) (by decide) (ev_X11_within hp (by unfold inR; omega) (by unfold inR; omega)) ?_
          rw [if_neg (by omega)]
          refine go_if_eq (tgt := 39) dX11_aheadAt_27 (by decide) (by unfold inR; omega) (fun b27 => ?_) (fun b27 => ?_)
          · skip
            refine go_bipush dX11_aheadAt_39 rfl ?_
            refine go_retI dX11_aheadAt_41 rfl ?_
            refine ⟨?_, hr1, ho⟩
            rw [e]
            unfold ln_at
            rw [if_pos (by omega)]
          · skip
            exact absurd rfl b27
  refine am_ev (by decide) [some (.ref 0), some (.int (iZ (a))), some (.int (iZ (p))), none] rfl (Nat.le_of_ble_eq_true rfl) ?_
  refine go_aload_n dX11_aheadAt_0 rfl ?_
  refine go_cvV0 (M2 := mX11_layAheads) dX11_aheadAt_1 ml_X11_239 mv_X11_layAheads sh_0 rfl rfl (Nat.le_of_ble_eq_true rfl) (by decide) (ev_X11_layAheads h.1 h.2.2.2.2.2.2.2) (fun σ1 hq => ?_)
  obtain ⟨⟨ws, hA⟩, hf1, ho⟩ := hq
  have hr1 := h.fr29 ho (by decide) (by decide) hf1
  refine go_aload_n dX11_aheadAt_4 rfl ?_
  refine go_iload_n dX11_aheadAt_5 rfl ?_
  refine go_cvI1 (M2 := mX11_aheadOf) dX11_aheadAt_6 ml_X11_245 mv_X11_aheadOf sh_0 rfl rfl (Nat.le_of_ble_eq_true rfl) (by decide) (ev_X11_aheadOf hr1.1 hA ha) (fun x σ2 hq => ?_)
  obtain ⟨hx, rfl⟩ := hq
  refine go_ist3 dX11_aheadAt_9 (Nat.le_of_ble_eq_true rfl) rfl ?_
  exact fin _ ws hr1 hA (ho.off (by decide)) x hx
