theorem proc_inv {r : Int → Int} {N w e o tg u : Int} (hR : RWI r N) (hN : 0 ≤ N ∧ N < 8000) (hw : 0 ≤ w ∧ w ≤ 1) (he : 0 ≤ e ∧ e ≤ r 1 - 1) (htg : 0 ≤ tg ∧ tg ≤ 1) (hz : ¬ r (47 + (10 * w + e)) = 0) (hs : BA (fun x => hb o x → r (17 + x) = r (27 + e)) (r 1)) (hf : ¬ (BE (fun x => hb o x ∧ r (47 + (10 * tg + x)) = 12) (r 1) ∨ (u = 1 ∧ r (307 + w) = 12))) : RWI (m_proc r w e o tg u) (N + 12) ∧ SG r (m_proc r w e o tg u) := by
  have hG := hR.1.1
  have b1 := hG.1.2.1
  have ed := hG.1.ed e he.1 (by omega)
  have gv := hG.2.1 e he.1 (by omega)
  have zl := hR.2.2.1.1 (10 * w + e) (by omega) (by omega)
  have hbt := hR.2.2.1.2.1 (12 * (10 * w + e)) (by omega) (by omega)
  have hvs := hR.2.2.1.2.2.2 w e 0 hw.1 hw.2 he.1 (by omega) (by omega) (by omega)
  rw [show 67 + 12 * (10 * w + e) + 0 = 67 + 12 * (10 * w + e) by omega] at hvs
  obtain ⟨hpl, htm⟩ := hvs.un hbt
  have h1 := hR.take hw (e := e) (by omega) (by omega)
  have to : ∀ i, i < 47 ∨ 307 ≤ i → m_take r (10 * w + e) i = r i := fun i hi => m_take_n (by omega) (by omega) (by omega)
  have sg1 : SG r (m_take r (10 * w + e)) := fun i _ i2 _ _ => to i (by omega)
  have hTM : m_moved (m_take r (10 * w + e)) e (r (67 + 12 * (10 * w + e))) = m_moved r e (r (67 + 12 * (10 * w + e))) := sg1.moved hG.1 he.1 (by omega)
  unfold m_proc
  rw [hTM]
  by_cases q : m_moved r e (r (67 + 12 * (10 * w + e))) = -1
  · rw [if_pos q]
    have h2 := h1.upd (w := w) (p := 6 + e) (t := r (67 + 12 * (10 * w + e))) (c := -1) (by omega) hw (by omega) hbt (Or.inr rfl) (sg1.vs hG.1 hvs)
    exact ⟨h2.mono (by omega), sg1.trans (SG.upd h1.2.2.2.2.1.1 hw (by omega) hbt)⟩
  · rw [if_neg q]
    have hmt := mt_moved hG (by omega) htm q
    obtain ⟨tt, htt⟩ : ∃ tt, tt = m_moved r e (r (67 + 12 * (10 * w + e))) := ⟨_, rfl⟩
    rw [← htt] at hmt ⊢
    have htr := hmt.1
    have hvn : VS r (1000 * r (27 + e) + tt) := VS.mk (Or.inl ⟨by omega, ed.2.1.1, by omega⟩) hmt
    have hnf : ∀ x, 0 ≤ x → x < r 1 → hb o x → ¬ r (47 + (10 * tg + x)) = 12 := fun x x1 x2 x3 x4 => hf (Or.inl ⟨x, x1, x2, x3, x4⟩)
    have tsz : ∀ l, 0 ≤ l → l < 20 → m_take r (10 * w + e) (47 + l) ≤ r (47 + l) := fun l l1 l2 => by
      by_cases ql : l = 10 * w + e
      · rw [ql, m_take_c (by omega)]; omega
      · rw [m_take_n (by omega) (by omega) (by omega)]; exact Int.le_refl _
    have t1 : m_take r (10 * w + e) 1 = r 1 := to 1 (by omega)
    have hf1 : ∀ x, 0 ≤ x → x < m_take r (10 * w + e) 1 → hb o x → m_take r (10 * w + e) (47 + (10 * tg + x)) < 12 := fun x x1 x2 x3 => by
      rw [t1] at x2
      have z1 := hnf x x1 x2 x3
      have z2 := hR.2.2.1.1 (10 * tg + x) (by omega) (by omega)
      have z3 := tsz (10 * tg + x) (by omega) (by omega)
      omega
    have hv1 : ∀ x, 0 ≤ x → x < m_take r (10 * w + e) 1 → hb o x → VS (m_take r (10 * w + e)) (1000 * (6 + x) + tt) := fun x x1 x2 x3 => by
      rw [t1] at x2
      exact sg1.vs hG.1 (hvn.out hG htr ed.2.1 ⟨x1, x2⟩ (hs x x1 x2 x3))
    have h2 := h1.pa (w := w) (o := o) (tg := tg) (t := tt) (by omega) hw htg htr hf1 hv1 (m_take r (10 * w + e) 1).toNat (by omega)
    have b2 : ((m_take r (10 * w + e) 1).toNat : Int) ≤ 10 := by omega
    obtain ⟨i1, i2, i3, i4⟩ := m_pa_inv (w := w) (o := o) (tg := tg) (t := tt) (E := r 1) h1.2.2.2.2.1.1 h1.2.2.1.1 (by omega) hw htg htr b1.2 (by rw [← t1]; exact hf1) (m_take r (10 * w + e) 1).toNat (by omega)
    have sg2 : SG r (m_pa w o tg tt (m_take r (10 * w + e) 1).toNat (m_take r (10 * w + e))) := sg1.trans (fun i _ _ _ _ => i2 i (by omega) (by omega))
    have hKK : KK (fun i => ¬ i = 4) := fun i hi => by omega
    have V := m_take r (10 * w + e) 4 + bz (m_vio (m_take r (10 * w + e)) (r (27 + e)) tt)
    have hv01 := bz_rg (m_vio (m_take r (10 * w + e)) (r (27 + e)) tt)
    have l2 := hR.2.1.2.1
    have r4 : m_take r (10 * w + e) 4 = r 4 := to 4 (by omega)
    have ef1 : (fu (m_take r (10 * w + e)) 4 (m_take r (10 * w + e) 4 + bz (m_vio (m_take r (10 * w + e)) (r (27 + e)) tt))) 1 = m_take r (10 * w + e) 1 := fu_n (by omega)
    have ak0 : AK (fun i => ¬ i = 4) (fu (m_take r (10 * w + e)) 4 (m_take r (10 * w + e) 4 + bz (m_vio (m_take r (10 * w + e)) (r (27 + e)) tt))) (m_take r (10 * w + e)) := fun i hi => fu_n hi
    have ak1 := AK.pa (o := o) hKK ak0 hw htg htr.1 (m_take r (10 * w + e) 1).toNat (by omega)
    have hIV : RI (fu (m_take r (10 * w + e)) 4 (m_take r (10 * w + e) 4 + bz (m_vio (m_take r (10 * w + e)) (r (27 + e)) tt))) N := h1.2.2.2.2.1.1.row (fun i _ _ => fu_n (by omega))
    have hMV : RM2 (fu (m_take r (10 * w + e)) 4 (m_take r (10 * w + e) 4 + bz (m_vio (m_take r (10 * w + e)) (r (27 + e)) tt))) := h1.2.2.1.1.fu4 (by omega)
    obtain ⟨j1, j2, j3, j4⟩ := m_pa_inv (w := w) (o := o) (tg := tg) (t := tt) (E := r 1) hIV hMV (by omega) hw htg htr b1.2 (fun x x1 x2 x3 => by rw [fu_n (by omega)]; exact hf1 x x1 (by rw [t1]; exact x2) x3) (m_take r (10 * w + e) 1).toNat (by omega)
    have v4 := j2 4 (by omega) (by omega)
    rw [fu_s] at v4
    unfold m_proc1
    rw [ef1]
    by_cases qu : u = 1
    · rw [if_pos qu]
      have w12 : ¬ r (307 + w) = 12 := fun x => hf (Or.inr ⟨qu, x⟩)
      have aw := hR.2.2.2.1.1 w hw.1 (by omega)
      have w3 : m_pa w o tg tt (m_take r (10 * w + e) 1).toNat (m_take r (10 * w + e)) (307 + w) = r (307 + w) := by rw [i2 _ (by omega) (by omega), to _ (by omega)]
      have h3 := h2.rq (w := w) (nd := r (27 + e)) (t := tt) hw ed.2.1 htr (by omega)
      have sg3 : SG r (m_rq1 (m_pa w o tg tt (m_take r (10 * w + e) 1).toNat (m_take r (10 * w + e))) w (r (27 + e)) tt) := sg2.trans (fun i _ _ _ _ => rq_o hw (by omega) (by omega))
      have h4 := h3.upd (w := w) (p := r (27 + e)) (t := tt) (c := 1) (by omega) hw (by omega) htr (Or.inl rfl) (sg3.vs hG.1 hvn)
      have sg4 := sg3.trans (SG.upd (w := w) (p := r (27 + e)) (t := tt) (c := 1) h3.2.2.2.2.1.1 hw (by omega) htr)
      have ak2 := AK.upd (w := w) (p := r (27 + e)) (t := tt) (c := 1) hKK (AK.rq (w := w) (nd := r (27 + e)) (t := tt) hKK ak1 hw) hw (by omega) htr.1
      have w4 : m_pa w o tg tt (m_take r (10 * w + e) 1).toNat (fu (m_take r (10 * w + e)) 4 (m_take r (10 * w + e) 4 + bz (m_vio (m_take r (10 * w + e)) (r (27 + e)) tt))) (307 + w) = r (307 + w) := by rw [j2 _ (by omega) (by omega), fu_n (by omega), to _ (by omega)]
      have hI6 : RI (m_rq1 (m_pa w o tg tt (m_take r (10 * w + e) 1).toNat (fu (m_take r (10 * w + e)) 4 (m_take r (10 * w + e) 4 + bz (m_vio (m_take r (10 * w + e)) (r (27 + e)) tt)))) w (r (27 + e)) tt) (N + 10) := (j1.mono (by omega)).row (fun i _ _ => rq_o hw (by omega) (by omega))
      have vv : m_upd (m_rq1 (m_pa w o tg tt (m_take r (10 * w + e) 1).toNat (fu (m_take r (10 * w + e)) 4 (m_take r (10 * w + e) 4 + bz (m_vio (m_take r (10 * w + e)) (r (27 + e)) tt)))) w (r (27 + e)) tt) w (r (27 + e)) tt 1 4 = m_take r (10 * w + e) 4 + bz (m_vio (m_take r (10 * w + e)) (r (27 + e)) tt) := by rw [m_upd_lo hI6 hw (by omega) htr (by omega) (by omega), rq_o hw (by omega) (by omega)]; exact v4
      have er_ : m_ask (m_pa w o tg tt (m_take r (10 * w + e) 1).toNat (fu (m_take r (10 * w + e)) 4 (m_take r (10 * w + e) 4 + bz (m_vio (m_take r (10 * w + e)) (r (27 + e)) tt)))) w (r (27 + e)) tt = fu (m_upd (m_rq1 (m_pa w o tg tt (m_take r (10 * w + e) 1).toNat (m_take r (10 * w + e))) w (r (27 + e)) tt) w (r (27 + e)) tt 1) 4 (m_take r (10 * w + e) 4 + bz (m_vio (m_take r (10 * w + e)) (r (27 + e)) tt)) := by
        funext i
        by_cases q4 : i = 4
        · rw [q4, fu_s]; exact vv
        · rw [fu_n q4]; exact ak2 i q4
      rw [er_]
      unfold VN at l2
      have h5 := (h4.mono (show N + ((m_take r (10 * w + e) 1).toNat : Int) + 1 ≤ N + 11 by omega)).set4 (v := m_take r (10 * w + e) 4 + bz (m_vio (m_take r (10 * w + e)) (r (27 + e)) tt)) (by omega)
      have sg5 : SG r (fu (m_upd (m_rq1 (m_pa w o tg tt (m_take r (10 * w + e) 1).toNat (m_take r (10 * w + e))) w (r (27 + e)) tt) w (r (27 + e)) tt 1) 4 (m_take r (10 * w + e) 4 + bz (m_vio (m_take r (10 * w + e)) (r (27 + e)) tt))) := sg4.trans (fun i _ _ _ _ => fu_n (by omega))
      have h6 := h5.upd (w := w) (p := 6 + e) (t := r (67 + 12 * (10 * w + e))) (c := -1) (by omega) hw (by omega) hbt (Or.inr rfl) (sg5.vs hG.1 hvs)
      exact ⟨h6.mono (by omega), sg5.trans (SG.upd h5.2.2.2.2.1.1 hw (by omega) hbt)⟩
    · rw [if_neg qu]
      have er_ : m_pa w o tg tt (m_take r (10 * w + e) 1).toNat (fu (m_take r (10 * w + e)) 4 (m_take r (10 * w + e) 4 + bz (m_vio (m_take r (10 * w + e)) (r (27 + e)) tt))) = fu (m_pa w o tg tt (m_take r (10 * w + e) 1).toNat (m_take r (10 * w + e))) 4 (m_take r (10 * w + e) 4 + bz (m_vio (m_take r (10 * w + e)) (r (27 + e)) tt)) := by
        funext i
        by_cases q4 : i = 4
        · rw [q4, fu_s]; exact v4
        · rw [fu_n q4]; exact ak1 i q4
      rw [er_]
      unfold VN at l2
      have h5 := (h2.mono (show N + ((m_take r (10 * w + e) 1).toNat : Int) ≤ N + 11 by omega)).set4 (v := m_take r (10 * w + e) 4 + bz (m_vio (m_take r (10 * w + e)) (r (27 + e)) tt)) (by omega)
      have sg5 : SG r (fu (m_pa w o tg tt (m_take r (10 * w + e) 1).toNat (m_take r (10 * w + e))) 4 (m_take r (10 * w + e) 4 + bz (m_vio (m_take r (10 * w + e)) (r (27 + e)) tt))) := sg2.trans (fun i _ _ _ _ => fu_n (by omega))
      have h6 := h5.upd (w := w) (p := 6 + e) (t := r (67 + 12 * (10 * w + e))) (c := -1) (by omega) hw (by omega) hbt (Or.inr rfl) (sg5.vs hG.1 hvs)
      exact ⟨h6.mono (by omega), sg5.trans (SG.upd h5.2.2.2.2.1.1 hw (by omega) hbt)⟩
theorem pi_process {r pf er : Int → Int} {sv c w e o tg u : Int} (h : PI (r, pf, sv, er) c) (hc : 0 ≤ c ∧ c ≤ 600) : PI (sp_process (r, pf, sv, er) w e o tg u).2 (c + 1) := by
  have hR := h.1
  dsimp only at hR
  unfold sp_process
  by_cases q1 : (((((0 ≤ w ∧ w ≤ 1) ∧ 0 ≤ e ∧ e ≤ r 1 - 1) ∧ 0 ≤ tg ∧ tg ≤ 1) ∧ 0 ≤ u ∧ u ≤ 1)) ∧ 0 ≤ o ∧ o ≤ pw (r 1) - 1
  · rw [pif_t q1]
    by_cases q2 : r (47 + (10 * w + e)) = 0 ∨ ¬ BA (fun x => hb o x → r (17 + x) = r (27 + e)) (r 1)
    · rw [pif_t q2]; exact h.fail (by omega)
    · rw [pif_f q2]
      by_cases q3 : BE (fun x => hb o x ∧ r (47 + (10 * tg + x)) = 12) (r 1) ∨ (u = 1 ∧ r (307 + w) = 12)
      · rw [pif_t q3]; exact h.fail (by omega)
      · rw [pif_f q3]
        obtain ⟨k1, k2⟩ := proc_inv hR (by omega) q1.1.1.1.1 q1.1.1.1.2 q1.1.1.2 (fun z => q2 (Or.inl z)) (Classical.byContradiction fun z => q2 (Or.inr z)) q3
        exact h.new (k1.mono (by omega)) (k2.px hR.gi)
  · rw [pif_f q1]; exact h.fail (by omega)
theorem pi_deliver {r pf er : Int → Int} {sv c w nd o tg : Int} (h : PI (r, pf, sv, er) c) (hc : 0 ≤ c ∧ c ≤ 600) : PI (sp_deliver (r, pf, sv, er) w nd o tg).2 (c + 1) := by
  have hR := h.1
  dsimp only at hR
  unfold sp_deliver
  by_cases q1 : (((0 ≤ w ∧ w ≤ 1) ∧ 0 ≤ nd ∧ nd ≤ r 0 - 1) ∧ 0 ≤ tg ∧ tg ≤ 1) ∧ 0 ≤ o ∧ o ≤ pw (r 1) - 1
  · rw [pif_t q1]
    by_cases q2 : nxt r w nd = -1 ∨ ¬ BA (fun x => hb o x → r (17 + x) = nd) (r 1)
    · rw [pif_t q2]; exact h.fail (by omega)
    · rw [pif_f q2]
      by_cases q3 : BE (fun x => hb o x ∧ r (47 + (10 * tg + x)) = 12) (r 1)
      · rw [pif_t q3]; exact h.fail (by omega)
      · rw [pif_f q3]
        have hG := hR.1.1
        have b0 := hG.1.1
        have b1 := hG.1.2.1
        have hw := q1.1.1.1
        have hA := hR.2.2.2.1.1
        have aw := hA w hw.1 (by omega)
        have hs : BA (fun x => hb o x → r (17 + x) = nd) (r 1) := Classical.byContradiction fun z => q2 (Or.inr z)
        have hnx := nx_spec (nd := nd) hA hR.2.2.2.1.2.1 hw
        obtain ⟨tt, htt⟩ : ∃ tt, tt = nxt r w nd := ⟨_, rfl⟩
        dsimp only
        rw [← htt] at hnx ⊢
        obtain ⟨htr, ⟨x0, xa, xb, xc, xd, xe⟩, -⟩ := hnx.resolve_left (fun z => q2 (Or.inl (by rw [← htt]; exact z.1)))
        rw [xd] at xe
        have hvn : VS r (1000 * nd + tt) := hR.2.2.2.2.1.2.2.1.at hw (by omega) (by have := xe.1; omega)
        obtain ⟨fa, hfa⟩ := fx_ex (r := r) (w := w) (nd := nd) (t := tt) (x0 - 12 * w).toNat x0 (by omega) xb xc xd
        have hfx : FX r w nd tt (fix r w nd tt) := by rw [fix_eq hfa]; exact hfa
        have h1 := hR.del0 hw (by omega) htr hfx
        have to : ∀ i, (i < 307 ∧ ¬ i = 3) ∨ (357 ≤ i ∧ i < 359) ∨ 6359 ≤ i → m_del0 r w nd tt i = r i := fun i hi => by
          unfold m_del0
          rw [fu_n (by omega), fu_n (by omega)]; exact m_out_n hw hA hfx (by omega)
        have sg1 : SG r (m_del0 r w nd tt) := fun i _ _ _ _ => to i (by omega)
        have t1 : m_del0 r w nd tt 1 = r 1 := to 1 (by omega)
        have hf1 : ∀ x, 0 ≤ x → x < m_del0 r w nd tt 1 → hb o x → m_del0 r w nd tt (47 + (10 * tg + x)) < 12 := fun x x1 x2 x3 => by
          rw [t1] at x2
          have z1 : ¬ r (47 + (10 * tg + x)) = 12 := fun z => q3 ⟨x, x1, x2, x3, z⟩
          have z2 := hR.2.2.1.1 (10 * tg + x) (by omega) (by omega)
          rw [to _ (by omega)]; omega
        have hv1 : ∀ x, 0 ≤ x → x < m_del0 r w nd tt 1 → hb o x → VS (m_del0 r w nd tt) (1000 * (6 + x) + tt) := fun x x1 x2 x3 => by
          rw [t1] at x2
          exact sg1.vs hG.1 (hvn.out hG htr (by omega) ⟨x1, x2⟩ (hs x x1 x2 x3))
        have h2 := h1.pa (w := w) (o := o) (tg := tg) (t := tt) (by omega) hw q1.1.2 htr hf1 hv1 (m_del0 r w nd tt 1).toNat (by omega)
        obtain ⟨i1, i2, i3, i4⟩ := m_pa_inv (w := w) (o := o) (tg := tg) (t := tt) (E := r 1) h1.2.2.2.2.1.1 h1.2.2.1.1 (by omega) hw q1.1.2 htr b1.2 (by rw [← t1]; exact hf1) (m_del0 r w nd tt 1).toNat (by omega)
        have sg2 : SG r (m_pa w o tg tt (m_del0 r w nd tt 1).toNat (m_del0 r w nd tt)) := sg1.trans (fun i _ _ _ _ => i2 i (by omega) (by omega))
        have h3 := h2.upd (w := w) (p := nd) (t := tt) (c := -1) (by omega) hw (by omega) htr (Or.inr rfl) (sg2.vs hG.1 hvn)
        have sg3 := sg2.trans (SG.upd (w := w) (p := nd) (t := tt) (c := -1) h2.2.2.2.2.1.1 hw (by omega) htr)
        exact h.new (h3.mono (by omega)) (sg3.px hG.1)
  · rw [pif_f q1]; exact h.fail (by omega)

