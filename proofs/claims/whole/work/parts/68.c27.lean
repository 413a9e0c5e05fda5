theorem vt_of {r : Int → Int} {a t : Int} (h1 : m_place r a) (h2 : m_time r a t) : vt r a (t % 100) := by
  obtain ⟨h3, h4⟩ := h2
  refine ⟨h1, by omega, ?_⟩
  rcases h4 with h | h | h
  · exact Or.inl h
  · exact Or.inr (Or.inl ⟨h.1, by omega⟩)
  · exact Or.inr (Or.inr ⟨h.1, by omega⟩)
/-- a stamp of the graph -/
def VS (r : Int → Int) (x : Int) : Prop := m_place r (x / 1000) ∧ m_time r (x / 1000) (x % 1000)
def VDv (r : Int → Int) : Prop := ∀ w x, 0 ≤ w → w ≤ 1 → 0 ≤ x → x < 16000 → ¬ r (6359 + 16000 * w + x) = 0 → VS r x
theorem VI.inj {n : Nat} {sz i j : Int} {fs fv f : Int → Int} (h : VI n sz fs fv f) (h1 : 0 ≤ i ∧ i < sz) (h2 : 0 ≤ j ∧ j < sz) (e : fs i = fs j) : i = j := by
  rcases (show i < j ∨ i = j ∨ j < i by omega) with q | q | q
  · have := h.2.2.1 i j h1.1 q h2.2; omega
  · exact q
  · have := h.2.2.1 j i h2.1 q h1.2; omega
set_option maxRecDepth 100000 in
set_option maxHeartbeats 4000000 in
theorem c_X7_couldResultIn {X : Hp} {pt kap : Nat} {ct : Int} {r pf : Int → Int} {sv : Int} {er : Int → Int} (hP : PP X pt kap ct (r, pf, sv, er)) (hGV : GV r) (hE : EI er)  {a t b u : Int} (hct : 0 ≤ ct ∧ ct ≤ 1000) (h_a : -2147483648 ≤ a ∧ a ≤ 2147483647) (h_t : -2147483648 ≤ t ∧ t ≤ 2147483647) (h_b : -2147483648 ≤ b ∧ b ≤ 2147483647) (h_u : -2147483648 ≤ u ∧ u ≤ 2147483647) : Cv yX7_couldResultIn cX7_couldResultIn 5 (some .int) 5 122 [.ref pt, vi a, vi t, vi b, vi u] X (393155 - kap) (6 * (393155 - kap)) (fun rv X' kk nn => rv = some (vi (sp_couldResultIn (r, pf, sv, er) a t b u).1) ∧ PPQ X X' pt kap (ct + 1) (sp_couldResultIn (r, pf, sv, er) a t b u).2 kk nn) := by
  refine Cv.of (by decide +kernel) [some (.ref pt), some (vi a), some (vi t), some (vi b), some (vi u)] rfl (Nat.le_of_ble_eq_true rfl) (fun φ hF hR => ?_)
  obtain ⟨ea, sa, y, st, B, mk, gn, kn, kr, hO, hea, hWR, hgn, hST, hkap⟩ := id hP
  dsimp only at hO hea hWR hST
  obtain ⟨g, ml, ws, va, qa, oe, dc, v_, q_, n_, m_, z_, f_, hS, hV, hQ, hk_⟩ := id hST
  obtain ⟨av, aq, ao, af, h1, ⟨ga, gb, gc, gd, nc, ec, jd, js, je, jk, hGP, hGE⟩, ⟨mz, mt, yz, yt, hMP, x1, x2⟩, ⟨wz, wt, uz, ut, hWP, x3⟩, h5, h6, h7, h8, h9, h10, h11⟩ := id hS
  obtain ⟨g1, g1'⟩ := id hGE.1
  subst g1
  subst g1'
  have hpt := hO.pt.1
  have hLB := hO.pt.2
  unfold LB at hLB
  have b0 := hGV.1.1
  have b1 := hGV.1.2.1
  have hP2 := hP
  have hF2 := FB.refl 0 5000 X
  have hl1 := hST.le
  have hl2 := hO.le
  have hl3 := hWR.mk
  obtain ⟨ol, hyo⟩ := hWR.obj
  refine j_aload_n hF dX7_couldResultIn_0 rfl (j_get hF hpt fl_RX7_27 dX7_couldResultIn_1 rfl (j_get hF h1 fl_RX7_43 dX7_couldResultIn_4 rfl (j_iload_n hF dX7_couldResultIn_7 rfl (j_iload_n hF dX7_couldResultIn_8 rfl (j_callV hF (c_X0_hasTime hGP (by omega) (by omega) (by omega) (by omega) (hGE.rgd hGV.1) (hGE.rgs hGV.1)) ms_X0_hasTime mv_X0_hasTime lk_RX7_86 dX7_couldResultIn_9 hGP.1 rfl rfl rfl (by simp [Value.category]) ⟨⟨(Nat.le_of_ble_eq_true rfl), (Nat.le_of_ble_eq_true rfl)⟩, by omega, by omega⟩ (fun v1 X1 hp1 hE1 => ?_))))))
  obtain ⟨rfl, he1⟩ := hp1; obtain rfl := he1.symm
  rw [bz_iff (ct_iff hGV.1 hGE)]
  refine j_b_eq hF 31 dX7_couldResultIn_12 (by decide) (fun c12 => ?_) (fun c12 => ?_)
  ·
    refine j_aload_n hF dX7_couldResultIn_31 rfl (j_bipush hF dX7_couldResultIn_32 (by decide) (j_callV hF (c_X7_fail hP hE (by omega)) ms_X7_fail mv_X7_fail lk_RX7_35 dX7_couldResultIn_34 hpt rfl rfl rfl (by simp [Value.category]) ⟨⟨(Nat.le_of_ble_eq_true rfl), (Nat.le_of_ble_eq_true rfl)⟩, by omega, by omega⟩ (fun v2 X2 hp2 hE2 => ?_)))
    obtain ⟨rfl, hP2, hF2⟩ := hp2
    refine j_iretv hF hR dX7_couldResultIn_37 (by omega) (by omega) ?_
    refine PV ?_ (hP2.mono (by omega)) hF2 (by omega) (by omega) (by omega)
    unfold sp_couldResultIn
    first | exact (pif_t ⟨⟨⟨c12.1, c28.1⟩, c12.2⟩, c28.2⟩).trans (by rw [bz_t c63]) | exact (pif_t ⟨⟨⟨c12.1, c28.1⟩, c12.2⟩, c28.2⟩).trans (by rw [bz_f c63]) | exact pif_f (fun h => c12 ⟨h.1.1.1, h.1.2⟩) | exact pif_f (fun h => c28 ⟨h.1.1.2, h.2⟩)
  ·
    refine j_aload_n hF dX7_couldResultIn_15 rfl (j_get hF hpt fl_RX7_27 dX7_couldResultIn_16 rfl (j_get hF h1 fl_RX7_43 dX7_couldResultIn_19 rfl (j_iload_n hF dX7_couldResultIn_22 rfl (j_iload hF dX7_couldResultIn_23 rfl (j_callV hF (c_X0_hasTime hGP (by omega) (by omega) (by omega) (by omega) (hGE.rgd hGV.1) (hGE.rgs hGV.1)) ms_X0_hasTime mv_X0_hasTime lk_RX7_86 dX7_couldResultIn_25 hGP.1 rfl rfl rfl (by simp [Value.category]) ⟨⟨(Nat.le_of_ble_eq_true rfl), (Nat.le_of_ble_eq_true rfl)⟩, by omega, by omega⟩ (fun v3 X3 hp3 hE3 => ?_))))))
    obtain ⟨rfl, he3⟩ := hp3; obtain rfl := he3.symm
    rw [bz_iff (ct_iff hGV.1 hGE)]
    refine j_b_ne hF 38 dX7_couldResultIn_28 (by decide) (fun c28 => ?_) (fun c28 => ?_)
    ·
      refine j_aload_n hF dX7_couldResultIn_38 rfl (j_get hF hpt fl_RX7_22 dX7_couldResultIn_39 rfl (j_aload_n hF dX7_couldResultIn_42 rfl (j_get hF hpt fl_RX7_27 dX7_couldResultIn_43 rfl (j_get hF h1 fl_RX7_43 dX7_couldResultIn_46 rfl (j_iload_n hF dX7_couldResultIn_49 rfl ?_)))))
      refine j_iload_n hF dX7_couldResultIn_50 rfl (j_callS hF (c_X7_stampOf) ms_X7_stampOf mt_X7_stampOf lk_RX7_94 dX7_couldResultIn_51 rfl rfl rfl (by simp [Value.category]) ⟨⟨(Nat.le_of_ble_eq_true rfl), (Nat.le_of_ble_eq_true rfl)⟩, by omega, by omega⟩ (fun v4 X4 hp4 hE4 => ?_))
      obtain ⟨rfl, he4⟩ := hp4; obtain rfl := he4.symm
      refine j_iload_n hF dX7_couldResultIn_54 rfl (j_iload hF dX7_couldResultIn_55 rfl (j_callS hF (c_X7_stampOf) ms_X7_stampOf mt_X7_stampOf lk_RX7_94 dX7_couldResultIn_57 rfl rfl rfl (by simp [Value.category]) ⟨⟨(Nat.le_of_ble_eq_true rfl), (Nat.le_of_ble_eq_true rfl)⟩, by omega, by omega⟩ (fun v5 X5 hp5 hE5 => ?_)))
      obtain ⟨rfl, he5⟩ := hp5; obtain rfl := he5.symm
      refine j_callVv hF (c_X5_lead hWR hGP (by omega) hGE hGV (vt_of c12.1 c12.2) c12.2.1 (m_place_rg hGV.1 c28.1) c28.2.1 (by omega)) ms_X5_lead mv_X5_lead lk_RX7_97 dX7_couldResultIn_60 hyo rfl rfl rfl (by simp [Value.category]) ⟨⟨(Nat.le_of_ble_eq_true rfl), (Nat.le_of_ble_eq_true rfl)⟩, by omega, by omega⟩ (fun v6 X6 k6 n6 hp6 hE6 => ?_)
      obtain ⟨rfl, mk2, hmk, hW2, hFw, hkk, hnn⟩ := hp6
      have hmk1 := hW2.mk
      have hP2 : PP X6 pt (kn + kr + 5067 * mk2) ct (r, pf, sv, er) := ⟨ea, sa, y, st, B, mk2, gn, kn, kr, hO.keep hFw (by omega), hFw _ _ _ hea (by omega), hW2, hgn, hST.keep hFw (by omega), rfl⟩
      have hF2 : FB 0 5000 X X6 := hFw.mono (by omega) (by omega)
      refine j_b_eq hF 70 dX7_couldResultIn_63 (by decide) (fun c63 => ?_) (fun c63 => ?_)
      ·
        refine j_iconst hF dX7_couldResultIn_70 (j_iretv hF hR dX7_couldResultIn_71 (by omega) (by omega) ?_)
        refine PV ?_ (hP2.mono (by omega)) hF2 (by omega) (by omega) (by omega)
        unfold sp_couldResultIn
        first | exact (pif_t ⟨⟨⟨c12.1, c28.1⟩, c12.2⟩, c28.2⟩).trans (by rw [bz_t c63]) | exact (pif_t ⟨⟨⟨c12.1, c28.1⟩, c12.2⟩, c28.2⟩).trans (by rw [bz_f c63]) | exact pif_f (fun h => c12 ⟨h.1.1.1, h.1.2⟩) | exact pif_f (fun h => c28 ⟨h.1.1.2, h.2⟩)
      ·
        refine j_iconst hF dX7_couldResultIn_66 (j_goto hF 71 dX7_couldResultIn_67 (by decide) (j_iretv hF hR dX7_couldResultIn_71 (by omega) (by omega) ?_))
        refine PV ?_ (hP2.mono (by omega)) hF2 (by omega) (by omega) (by omega)
        unfold sp_couldResultIn
        first | exact (pif_t ⟨⟨⟨c12.1, c28.1⟩, c12.2⟩, c28.2⟩).trans (by rw [bz_t c63]) | exact (pif_t ⟨⟨⟨c12.1, c28.1⟩, c12.2⟩, c28.2⟩).trans (by rw [bz_f c63]) | exact pif_f (fun h => c12 ⟨h.1.1.1, h.1.2⟩) | exact pif_f (fun h => c28 ⟨h.1.1.2, h.2⟩)
    ·
      refine j_aload_n hF dX7_couldResultIn_31 rfl (j_bipush hF dX7_couldResultIn_32 (by decide) (j_callV hF (c_X7_fail hP hE (by omega)) ms_X7_fail mv_X7_fail lk_RX7_35 dX7_couldResultIn_34 hpt rfl rfl rfl (by simp [Value.category]) ⟨⟨(Nat.le_of_ble_eq_true rfl), (Nat.le_of_ble_eq_true rfl)⟩, by omega, by omega⟩ (fun v7 X7 hp7 hE7 => ?_)))
      obtain ⟨rfl, hP2, hF2⟩ := hp7
      refine j_iretv hF hR dX7_couldResultIn_37 (by omega) (by omega) ?_
      refine PV ?_ (hP2.mono (by omega)) hF2 (by omega) (by omega) (by omega)
      unfold sp_couldResultIn
      first | exact (pif_t ⟨⟨⟨c12.1, c28.1⟩, c12.2⟩, c28.2⟩).trans (by rw [bz_t c63]) | exact (pif_t ⟨⟨⟨c12.1, c28.1⟩, c12.2⟩, c28.2⟩).trans (by rw [bz_f c63]) | exact pif_f (fun h => c12 ⟨h.1.1.1, h.1.2⟩) | exact pif_f (fun h => c28 ⟨h.1.1.2, h.2⟩)

set_option maxRecDepth 100000 in
set_option maxHeartbeats 4000000 in
theorem c_X7_earliest {X : Hp} {pt kap : Nat} {ct : Int} {r pf : Int → Int} {sv : Int} {er : Int → Int} (hP : PP X pt kap ct (r, pf, sv, er)) (hGV : GV r) (hE : EI er)  {a t b : Int} (hct : 0 ≤ ct ∧ ct ≤ 1000) (h_a : -2147483648 ≤ a ∧ a ≤ 2147483647) (h_t : -2147483648 ≤ t ∧ t ≤ 2147483647) (h_b : -2147483648 ≤ b ∧ b ≤ 2147483647) : Cv yX7_earliest cX7_earliest 5 (some .int) 4 97 [.ref pt, vi a, vi t, vi b] X (393155 - kap) (6 * (393155 - kap)) (fun rv X' kk nn => rv = some (vi (sp_earliest (r, pf, sv, er) a t b).1) ∧ PPQ X X' pt kap (ct + 1) (sp_earliest (r, pf, sv, er) a t b).2 kk nn) := by
  refine Cv.of (by decide +kernel) [some (.ref pt), some (vi a), some (vi t), some (vi b), none] rfl (Nat.le_of_ble_eq_true rfl) (fun φ hF hR => ?_)
  obtain ⟨ea, sa, y, st, B, mk, gn, kn, kr, hO, hea, hWR, hgn, hST, hkap⟩ := id hP
  dsimp only at hO hea hWR hST
  obtain ⟨g, ml, ws, va, qa, oe, dc, v_, q_, n_, m_, z_, f_, hS, hV, hQ, hk_⟩ := id hST
  obtain ⟨av, aq, ao, af, h1, ⟨ga, gb, gc, gd, nc, ec, jd, js, je, jk, hGP, hGE⟩, ⟨mz, mt, yz, yt, hMP, x1, x2⟩, ⟨wz, wt, uz, ut, hWP, x3⟩, h5, h6, h7, h8, h9, h10, h11⟩ := id hS
  obtain ⟨g1, g1'⟩ := id hGE.1
  subst g1
  subst g1'
  have hpt := hO.pt.1
  have hLB := hO.pt.2
  unfold LB at hLB
  have b0 := hGV.1.1
  have b1 := hGV.1.2.1
  have hP2 := hP
  have hF2 := FB.refl 0 5000 X
  have hl1 := hST.le
  have hl2 := hO.le
  have hl3 := hWR.mk
  obtain ⟨ol, hyo⟩ := hWR.obj
  refine j_aload_n hF dX7_earliest_0 rfl (j_get hF hpt fl_RX7_27 dX7_earliest_1 rfl (j_get hF h1 fl_RX7_43 dX7_earliest_4 rfl (j_iload_n hF dX7_earliest_7 rfl (j_iload_n hF dX7_earliest_8 rfl (j_callV hF (c_X0_hasTime hGP (by omega) (by omega) (by omega) (by omega) (hGE.rgd hGV.1) (hGE.rgs hGV.1)) ms_X0_hasTime mv_X0_hasTime lk_RX7_86 dX7_earliest_9 hGP.1 rfl rfl rfl (by simp [Value.category]) ⟨⟨(Nat.le_of_ble_eq_true rfl), (Nat.le_of_ble_eq_true rfl)⟩, by omega, by omega⟩ (fun v1 X1 hp1 hE1 => ?_))))))
  obtain ⟨rfl, he1⟩ := hp1; obtain rfl := he1.symm
  rw [bz_iff (ct_iff hGV.1 hGE)]
  refine j_b_eq hF 29 dX7_earliest_12 (by decide) (fun c12 => ?_) (fun c12 => ?_)
  ·
    refine j_aload_n hF dX7_earliest_29 rfl (j_bipush hF dX7_earliest_30 (by decide) (j_callV hF (c_X7_fail hP hE (by omega)) ms_X7_fail mv_X7_fail lk_RX7_35 dX7_earliest_32 hpt rfl rfl rfl (by simp [Value.category]) ⟨⟨(Nat.le_of_ble_eq_true rfl), (Nat.le_of_ble_eq_true rfl)⟩, by omega, by omega⟩ (fun v2 X2 hp2 hE2 => ?_)))
    obtain ⟨rfl, hP2, hF2⟩ := hp2
    refine j_iretv hF hR dX7_earliest_35 (by omega) (by omega) ?_
    refine PV ?_ (hP2.mono (by omega)) hF2 (by omega) (by omega) (by omega)
    unfold sp_earliest
    first | exact pif_f (fun h => c12 ⟨h.1.1, h.2⟩) | exact pif_f (fun h => c26 (by have q := h.1.2; have q2 := m_place_rg hGV.1 q; unfold m_place at q; dsimp only at q; omega)) | (refine (pif_t ⟨⟨c12.1, hpb⟩, c12.2⟩).trans ?_; rw [if_pos c61]) | (refine (pif_t ⟨⟨c12.1, hpb⟩, c12.2⟩).trans ?_; rw [if_neg c61])
  ·
    refine j_aload_n hF dX7_earliest_15 rfl (j_get hF hpt fl_RX7_27 dX7_earliest_16 rfl (j_get hF h1 fl_RX7_43 dX7_earliest_19 rfl (j_iload_n hF dX7_earliest_22 rfl (j_callV hF (c_X0_hasLocation hGP (by omega) (by omega) (by omega)) ms_X0_hasLocation mv_X0_hasLocation lk_RX7_101 dX7_earliest_23 hGP.1 rfl rfl rfl (by simp [Value.category]) ⟨⟨(Nat.le_of_ble_eq_true rfl), (Nat.le_of_ble_eq_true rfl)⟩, by omega, by omega⟩ (fun v3 X3 hp3 hE3 => ?_)))))
    obtain ⟨rfl, he3⟩ := hp3; obtain rfl := he3.symm
    refine j_b_ne hF 36 dX7_earliest_26 (by decide) (fun c26 => ?_) (fun c26 => ?_)
    ·
      have hpb : m_place r b := by unfold m_place; omega
      have hpa := m_place_rg hGV.1 c12.1
      refine j_aload_n hF dX7_earliest_36 rfl (j_get hF hpt fl_RX7_22 dX7_earliest_37 rfl (j_aload_n hF dX7_earliest_40 rfl (j_get hF hpt fl_RX7_27 dX7_earliest_41 rfl (j_get hF h1 fl_RX7_43 dX7_earliest_44 rfl (j_iload_n hF dX7_earliest_47 rfl ?_)))))
      refine j_iload_n hF dX7_earliest_48 rfl (j_callS hF (c_X7_stampOf) ms_X7_stampOf mt_X7_stampOf lk_RX7_94 dX7_earliest_49 rfl rfl rfl (by simp [Value.category]) ⟨⟨(Nat.le_of_ble_eq_true rfl), (Nat.le_of_ble_eq_true rfl)⟩, by omega, by omega⟩ (fun v4 X4 hp4 hE4 => ?_))
      obtain ⟨rfl, he4⟩ := hp4; obtain rfl := he4.symm
      refine j_iload_n hF dX7_earliest_52 rfl (j_callV hF (c_X5_leastCounters hWR hGP (by omega) hGE hGV (vt_of c12.1 c12.2) c12.2.1 (m_place_rg hGV.1 hpb) (by omega)) ms_X5_leastCounters mv_X5_leastCounters lk_RX7_104 dX7_earliest_53 hyo rfl rfl rfl (by simp [Value.category]) ⟨⟨(Nat.le_of_ble_eq_true rfl), (Nat.le_of_ble_eq_true rfl)⟩, by omega, by omega⟩ (fun v5 X5 hp5 hE5 => ?_))
      obtain ⟨rfl, hW2, hFw, hIL⟩ := hp5
      have hmk1 := hW2.mk
      have hlr := hIL.rg
      obtain ⟨mk2, hm2⟩ : ∃ mk2 : Nat, mk2 = 1 := ⟨1, rfl⟩
      rw [← hm2] at hW2
      have hP2 : PP X5 pt (kn + kr + 5067 * mk2) ct (r, pf, sv, er) := ⟨ea, sa, y, st, B, mk2, gn, kn, kr, hO.keep hFw (by omega), hFw _ _ _ hea (by omega), hW2, hgn, hST.keep hFw (by omega), rfl⟩
      have hF2 : FB 0 5000 X X5 := hFw.mono (by omega) (by omega)
      refine j_istore hF dX7_earliest_56 (Nat.le_of_ble_eq_true rfl) rfl (j_iload hF dX7_earliest_58 rfl (j_iconst hF dX7_earliest_60 (j_icmp_ne hF 68 dX7_earliest_61 (by decide) (by omega) (fun c61 => ?_) (fun c61 => ?_))))
      ·
        refine j_iload_n hF dX7_earliest_68 rfl (j_iload_n hF dX7_earliest_69 rfl (j_callS hF (c_X7_countersOf (by have := c12.2.1; omega)) ms_X7_countersOf mt_X7_countersOf lk_RX7_108 dX7_earliest_70 rfl rfl rfl (by simp [Value.category]) ⟨⟨(Nat.le_of_ble_eq_true rfl), (Nat.le_of_ble_eq_true rfl)⟩, by omega, by omega⟩ (fun v6 X6 hp6 hE6 => ?_)))
        obtain ⟨rfl, he6⟩ := hp6; obtain rfl := he6.symm
        refine j_isub hF dX7_earliest_73 (j_iload hF dX7_earliest_74 rfl (j_iadd hF dX7_earliest_76 (j_iretv hF hR dX7_earliest_77 (by omega) (by omega) ?_)))
        refine PV ?_ (hP2.mono (by omega)) hF2 (by omega) (by omega) (by omega)
        unfold sp_earliest
        first | exact pif_f (fun h => c12 ⟨h.1.1, h.2⟩) | exact pif_f (fun h => c26 (by have q := h.1.2; have q2 := m_place_rg hGV.1 q; unfold m_place at q; dsimp only at q; omega)) | (refine (pif_t ⟨⟨c12.1, hpb⟩, c12.2⟩).trans ?_; rw [if_pos c61]) | (refine (pif_t ⟨⟨c12.1, hpb⟩, c12.2⟩).trans ?_; rw [if_neg c61])
      ·
        refine j_iconst hF dX7_earliest_64 (j_goto hF 77 dX7_earliest_65 (by decide) (j_iretv hF hR dX7_earliest_77 (by omega) (by omega) ?_))
        refine PV ?_ (hP2.mono (by omega)) hF2 (by omega) (by omega) (by omega)
        unfold sp_earliest
        first | exact pif_f (fun h => c12 ⟨h.1.1, h.2⟩) | exact pif_f (fun h => c26 (by have q := h.1.2; have q2 := m_place_rg hGV.1 q; unfold m_place at q; dsimp only at q; omega)) | (refine (pif_t ⟨⟨c12.1, hpb⟩, c12.2⟩).trans ?_; rw [if_pos c61]) | (refine (pif_t ⟨⟨c12.1, hpb⟩, c12.2⟩).trans ?_; rw [if_neg c61])
    ·
      refine j_aload_n hF dX7_earliest_29 rfl (j_bipush hF dX7_earliest_30 (by decide) (j_callV hF (c_X7_fail hP hE (by omega)) ms_X7_fail mv_X7_fail lk_RX7_35 dX7_earliest_32 hpt rfl rfl rfl (by simp [Value.category]) ⟨⟨(Nat.le_of_ble_eq_true rfl), (Nat.le_of_ble_eq_true rfl)⟩, by omega, by omega⟩ (fun v7 X7 hp7 hE7 => ?_)))
      obtain ⟨rfl, hP2, hF2⟩ := hp7
      refine j_iretv hF hR dX7_earliest_35 (by omega) (by omega) ?_
      refine PV ?_ (hP2.mono (by omega)) hF2 (by omega) (by omega) (by omega)
      unfold sp_earliest
      first | exact pif_f (fun h => c12 ⟨h.1.1, h.2⟩) | exact pif_f (fun h => c26 (by have q := h.1.2; have q2 := m_place_rg hGV.1 q; unfold m_place at q; dsimp only at q; omega)) | (refine (pif_t ⟨⟨c12.1, hpb⟩, c12.2⟩).trans ?_; rw [if_pos c61]) | (refine (pif_t ⟨⟨c12.1, hpb⟩, c12.2⟩).trans ?_; rw [if_neg c61])

set_option maxRecDepth 100000 in
set_option maxHeartbeats 4000000 in
theorem c_X7_isOnFrontier {X : Hp} {pt ea sa y st B g : Nat} {sv : Int} {xs : List Value} {x0 x1 x2 : Value} {r : Int → Int} (hpt : X pt = some (0, ob 7 [.ref ea, .ref sa, .ref y, .ref st, vi sv])) (h1 : X st = some (B, ob 2 (x0 :: x1 :: x2 :: .ref g :: xs))) (hLB : LB B) {ga gb gc gd : Nat} {nc ec : Int} {jd js je jk : Int → Int} (hGP : GP X (B + 10) g ga gb gc gd nc ec jd js je jk) (hGE : GE r nc ec jd js je jk) (hGV : GV r) {mk : Nat} {gn : Int} (hWR : WR X 100 y mk gn r) (hgn : gn ≤ 100000) {bv v s cc k nv : Nat} {sz : Int} {fs fv fk : Int → Int} {w : Int} (hVP : VP X bv v s cc k nv sz fs fv fk) (hVI : VI nv sz fs fv (fun x => r (6359 + 16000 * w + x))) (hbv : 1000 ≤ bv) (hw : 0 ≤ w ∧ w ≤ 1) (hvd : VDv r) (hn : nv ≤ 32002) {row : Int} (hrow : 0 ≤ row ∧ row < sz) : Cv yX7_isOnFrontier cX7_isOnFrontier 5 (some .boolean) 5 122 [.ref pt, .ref v, vi row] X (4 * (1 - mk)) (30400 * (1 - mk)) (fun rv X' kk nn => rv = some (vi (bz (onF r w (fs row)))) ∧ ∃ mk', mk ≤ mk' ∧ WR X' 100 y mk' gn r ∧ FB 100 110 X X' ∧ kk ≤ 4 * (mk' - mk) ∧ nn ≤ 30400 * (mk' - mk)) := by
  refine Cv.of (by decide +kernel) [some (.ref pt), some (.ref v), some (vi row), none, none] rfl (Nat.le_of_ble_eq_true rfl) (fun φ hF hR => ?_)
  unfold LB at hLB
  have hz := hVI.1
  have hvr := hVI.2.1 row hrow.1 hrow.2
  obtain ⟨pq, tq, hpq, htq⟩ : ∃ pq tq, fs row = 1000 * pq + tq ∧ 0 ≤ tq ∧ tq ≤ 999 := ⟨fs row / 1000, fs row % 1000, by omega, by omega⟩
  have eq1 : fs row / 1000 = pq := by omega
  have eq2 : fs row % 1000 = tq := by omega
  have hl3 := hWR.mk
  refine j_aload_n hF dX7_isOnFrontier_0 rfl (j_get hF hVP.1 fl_RX7_270 dX7_isOnFrontier_1 rfl (j_iload_n hF dX7_isOnFrontier_4 rfl (j_iald hF hVP.2.2.1 dX7_isOnFrontier_5 (by omega) (fun ra1 rb1 => ?_))))
  refine j_if_gt hF 11 dX7_isOnFrontier_6 (by decide) (by omega) (fun c6 => ?_) (fun c6 => ?_)
  ·
    refine j_aload_n hF dX7_isOnFrontier_11 rfl (j_get hF hVP.1 fl_RX7_222 dX7_isOnFrontier_12 rfl (j_iload_n hF dX7_isOnFrontier_15 rfl (j_iald hF hVP.2.1 dX7_isOnFrontier_16 (by omega) (fun ra2 rb2 => ?_))))
    rw [hpq]
    refine j_istore_n hF dX7_isOnFrontier_17 (Nat.le_of_ble_eq_true rfl) rfl (j_iconst hF dX7_isOnFrontier_18 (j_istore hF dX7_isOnFrontier_19 (Nat.le_of_ble_eq_true rfl) rfl ?_))
    have LL : ∀ (n : Nat) (j : Int) (Y : Hp) (mk1 kc0 ks0 : Nat), (sz - j).toNat < n → 0 ≤ j ∧ j ≤ sz → WR Y 100 y mk1 gn r → FB 100 110 X Y → mk ≤ mk1 → kc0 ≤ 4 * (mk1 - mk) → ks0 ≤ 30400 * (mk1 - mk) → (∀ i, 0 ≤ i → i < j → ¬ i = row → 0 < fv i → ¬ Ld r (fs i / 1000) (fs i % 1000) pq tq) → Jd φ Y kc0 ks0 21 [some (.ref pt), some (.ref v), some (vi row), some (vi (1000 * pq + tq)), some (vi j)] [] := by
      intro n
      induction n with
      | zero => intro j Y mk1 kc0 ks0 hfu; exact absurd hfu (by omega)
      | succ n ih =>
        intro j Y mk1 kc0 ks0 hfu hj hWR hFw hmk hkk hnn hB
        have hpt := hFw _ _ _ hpt (by omega)
        have h1 := hFw _ _ _ h1 (by omega)
        have hGP := hGP.keep hFw (by omega)
        have hVP := hVP.keep hFw (by omega)
        have hl3 := hWR.mk
        obtain ⟨ol, hyo⟩ := hWR.obj
        refine j_iload hF dX7_isOnFrontier_21 rfl (j_aload_n hF dX7_isOnFrontier_23 rfl (j_get hF hVP.1 fl_RX7_215 dX7_isOnFrontier_24 rfl (j_icmp_ge hF 79 dX7_isOnFrontier_27 (by decide) (by omega) (fun c27 => ?_) (fun c27 => ?_))))
        ·
          refine j_iconst hF dX7_isOnFrontier_79 (j_zretv hF hR (Or.inr rfl) dX7_isOnFrontier_80 (by omega) (by omega) ?_)
          refine ⟨bz_r1 ⟨?_, fun x a1 a2 a3 a4 => ?_⟩, mk1, hmk, hWR, hFw, hkk, hnn⟩
          · have := hvr.2.1; dsimp only at this; omega
          · obtain ⟨i, i1, i2, i3⟩ := hVI.2.2.2 x a1 a2 (by show ¬ r (6359 + 16000 * w + x) = 0; omega)
            have hvi := hVI.2.1 i i1 i2
            rw [← i3, eq1, eq2]
            refine hB i i1 (by omega) (fun q => a3 (by rw [← i3, q])) ?_
            have := hvi.2.1; rw [i3] at this; dsimp only at this; omega
        ·
          refine j_iload hF dX7_isOnFrontier_30 rfl (j_iload_n hF dX7_isOnFrontier_32 rfl (j_icmp_eq hF 73 dX7_isOnFrontier_33 (by decide) (by omega) (fun c33 => ?_) (fun c33 => ?_)))
          ·
            refine j_iinc hF dX7_isOnFrontier_73 rfl (Nat.le_of_ble_eq_true rfl) rfl (j_goto hF 21 dX7_isOnFrontier_76 (by decide) ?_)
            first
            | (refine ih (j + 1) Y mk1 _ _ (by omega) (by omega) hWR hFw hmk hkk hnn (fun i i1 i2 i3 i4 => ?_)
               by_cases q : i = j
               · first | exact absurd (q.trans c33) i3 | (rw [q] at i4; exact absurd i4 (by omega))
               · exact hB i i1 (by omega) i3 i4)
            | (refine ih (j + 1) _ mk2 _ _ (by omega) (by omega) hW2 (hFw.trans hFw2) (by omega) (by omega) (by omega) (fun i i1 i2 i3 i4 => ?_)
               by_cases q : i = j
               · rw [q, ep, et]; exact c68
               · exact hB i i1 (by omega) i3 i4)
          ·
            refine j_aload_n hF dX7_isOnFrontier_36 rfl (j_get hF hVP.1 fl_RX7_270 dX7_isOnFrontier_37 rfl (j_iload hF dX7_isOnFrontier_40 rfl (j_iald hF hVP.2.2.1 dX7_isOnFrontier_42 (by omega) (fun ra1 rb1 => ?_))))
            have hvj := hVI.2.1 j hj.1 (by omega)
            refine j_if_le hF 73 dX7_isOnFrontier_43 (by decide) (by omega) (fun c43 => ?_) (fun c43 => ?_)
            ·
              refine j_iinc hF dX7_isOnFrontier_73 rfl (Nat.le_of_ble_eq_true rfl) rfl (j_goto hF 21 dX7_isOnFrontier_76 (by decide) ?_)
              first
              | (refine ih (j + 1) Y mk1 _ _ (by omega) (by omega) hWR hFw hmk hkk hnn (fun i i1 i2 i3 i4 => ?_)
                 by_cases q : i = j
                 · first | exact absurd (q.trans c33) i3 | (rw [q] at i4; exact absurd i4 (by omega))
                 · exact hB i i1 (by omega) i3 i4)
              | (refine ih (j + 1) _ mk2 _ _ (by omega) (by omega) hW2 (hFw.trans hFw2) (by omega) (by omega) (by omega) (fun i i1 i2 i3 i4 => ?_)
                 by_cases q : i = j
                 · rw [q, ep, et]; exact c68
                 · exact hB i i1 (by omega) i3 i4)
            ·
              refine j_aload_n hF dX7_isOnFrontier_46 rfl (j_get hF hpt fl_RX7_22 dX7_isOnFrontier_47 rfl (j_aload_n hF dX7_isOnFrontier_50 rfl (j_get hF hpt fl_RX7_27 dX7_isOnFrontier_51 rfl (j_get hF h1 fl_RX7_43 dX7_isOnFrontier_54 rfl (j_aload_n hF dX7_isOnFrontier_57 rfl ?_)))))
              refine j_get hF hVP.1 fl_RX7_222 dX7_isOnFrontier_58 rfl (j_iload hF dX7_isOnFrontier_61 rfl (j_iald hF hVP.2.1 dX7_isOnFrontier_63 (by omega) (fun ra2 rb2 => ?_)))
              have hvs : VS r (fs j) := hvd w _ hw.1 hw.2 hvj.1.1 hvj.1.2 hvj.2.2
              obtain ⟨pa, ta, hpa, hta⟩ : ∃ pa ta, fs j = 1000 * pa + ta ∧ 0 ≤ ta ∧ ta ≤ 999 := ⟨fs j / 1000, fs j % 1000, by omega, by omega⟩
              have ep : fs j / 1000 = pa := by omega
              have et : fs j % 1000 = ta := by omega
              unfold VS at hvs
              rw [ep, et] at hvs
              rw [hpa]
              refine j_iload_n hF dX7_isOnFrontier_64 rfl (j_callVv hF (c_X5_lead hWR hGP (by omega) hGE hGV (vt_of hvs.1 hvs.2) hta (by omega) htq hgn) ms_X5_lead mv_X5_lead lk_RX7_97 dX7_isOnFrontier_65 hyo rfl rfl rfl (by simp [Value.category]) ⟨⟨(Nat.le_of_ble_eq_true rfl), (Nat.le_of_ble_eq_true rfl)⟩, by omega, by omega⟩ (fun v3 X3 k3 n3 hp3 hE3 => ?_))
              obtain ⟨rfl, mk2, hmk2, hW2, hFw2, hkk2, hnn2⟩ := hp3
              have hmk3 := hW2.mk
              refine j_b_eq hF 73 dX7_isOnFrontier_68 (by decide) (fun c68 => ?_) (fun c68 => ?_)
              ·
                refine j_iinc hF dX7_isOnFrontier_73 rfl (Nat.le_of_ble_eq_true rfl) rfl (j_goto hF 21 dX7_isOnFrontier_76 (by decide) ?_)
                first
                | (refine ih (j + 1) Y mk1 _ _ (by omega) (by omega) hWR hFw hmk hkk hnn (fun i i1 i2 i3 i4 => ?_)
                   by_cases q : i = j
                   · first | exact absurd (q.trans c33) i3 | (rw [q] at i4; exact absurd i4 (by omega))
                   · exact hB i i1 (by omega) i3 i4)
                | (refine ih (j + 1) _ mk2 _ _ (by omega) (by omega) hW2 (hFw.trans hFw2) (by omega) (by omega) (by omega) (fun i i1 i2 i3 i4 => ?_)
                   by_cases q : i = j
                   · rw [q, ep, et]; exact c68
                   · exact hB i i1 (by omega) i3 i4)
              ·
                refine j_iconst hF dX7_isOnFrontier_71 (j_zretv hF hR (Or.inl rfl) dX7_isOnFrontier_72 (by omega) (by omega) ?_)
                refine ⟨bz_r0 (fun h => ?_), mk2, by omega, hW2, hFw.trans hFw2, by omega, by omega⟩
                have q := h.2 (fs j) hvj.1.1 hvj.1.2 (fun e => c33 (hVI.inj (by omega) hrow e)) (by have := hvj.2.1; dsimp only at this; omega)
                rw [ep, et, eq1, eq2] at q
                exact q c68
    exact LL (sz.toNat + 1) 0 X mk _ _ (by omega) (by omega) hWR (FB.refl _ _ X) (Nat.le_refl _) (by omega) (by omega) (fun i i1 i2 => absurd i2 (by omega))
  ·
    refine j_iconst hF dX7_isOnFrontier_9 (j_zretv hF hR (Or.inl rfl) dX7_isOnFrontier_10 (by omega) (by omega) ?_)
    exact ⟨bz_r0 (fun h => by have q := hvr.2.1; have q2 := h.1; dsimp only at q; omega), mk, Nat.le_refl _, hWR, FB.refl _ _ X, by omega, by omega⟩

