set_option maxRecDepth 100000 in
set_option maxHeartbeats 4000000 in
theorem c_X7_undo {X : Hp} {pt kap : Nat} {ct : Int} {r pf : Int → Int} {sv : Int} {er : Int → Int} (hP : PP X pt kap ct (r, pf, sv, er)) (hGV : GV r) (hE : EI er)  (hsv : 0 ≤ sv ∧ sv ≤ 3) (hC : CAN r) (hpr : 0 < sv → GI (pr pf (sv - 1)) ∧ (pr pf (sv - 1) 0 = r 0 → pr pf (sv - 1) 1 = r 1 → SG r (pr pf (sv - 1)))) : Cv yX7_undo cX7_undo 2 (some .int) 1 21 [.ref pt] X (393155 - kap) (6 * (393155 - kap)) (fun rv X' kk nn => rv = some (vi (sp_undo (r, pf, sv, er)).1) ∧ PPQ X X' pt kap (ct + 1) (sp_undo (r, pf, sv, er)).2 kk nn) := by
  refine Cv.of (by decide +kernel) [some (.ref pt), none] rfl (Nat.le_of_ble_eq_true rfl) (fun φ hF hR => ?_)
  obtain ⟨ea, sa, y, st, B, mk, gn, kn, kr, hO, hea, hWR, hgn, hST, hkap⟩ := id hP
  dsimp only at hO hea hWR hST
  obtain ⟨g, ml, ws, va, qa, oe, dc, v_, q_, n_, m_, z_, f_, hS, hV, hQ, hk_⟩ := id hST
  obtain ⟨av, aq, ao, af, h1, ⟨ga, gb, gc, gd, nc, ec, jd, js, je, jk, hGP, hGE⟩, ⟨mz, mt, yz, yt, hMP, x1, x2⟩, ⟨wz, wt, uz, ut, hWP, x3⟩, h5, h6, h7, h8, h9, h10, h11⟩ := id hS
  obtain ⟨g1, g1'⟩ := id hGE.1
  subst g1
  subst g1'
  have hpt := hO.pt.1
  have hLB := hO.pt.2
  unfold LB at hLB
  have b0 := hGV.1.1
  have b1 := hGV.1.2.1
  have hP2 := hP
  have hF2 := FB.refl 0 5000 X
  have hl1 := hST.le
  have hl2 := hO.le
  obtain ⟨ad, bs, kp, fs, rw_, -, ha, hLB2, h4, h5, h6, h7⟩ := id hO
  refine j_aload_n hF dX7_undo_0 rfl (j_get hF hpt fl_RX7_232 dX7_undo_1 rfl (j_if_ne hF 14 dX7_undo_4 (by decide) (by omega) (fun c4 => ?_) (fun c4 => ?_)))
  ·
    have hsv1 : 0 ≤ sv - 1 ∧ sv - 1 < 3 := by omega
    have hb4 := (h4 (sv - 1) hsv1.1 hsv1.2).2.1
    unfold LB at hb4
    obtain ⟨gn_, mln, wsn, van, qan, oen, dcn, vn_, qn_, nn_, mn_, zn_, fn_, hSn, -, -, hkn⟩ := id (h4 (sv - 1) hsv1.1 hsv1.2).2.2
    obtain ⟨avn, aqn, aon, afn, k1, ⟨gan, gbn, gcn, gdn, ncn, ecn, jdn, jsn, jen, jkn, hGPn, hGEn⟩, -⟩ := id hSn
    rw [h6 (sv - 1) hsv1.1 (by omega)] at hGEn
    obtain ⟨e1, e1'⟩ := id hGEn.1
    subst e1
    subst e1'
    obtain ⟨hG0, hpx⟩ := hpr (by omega)
    have hg0 := hG0.1
    have hg1 := hG0.2.1
    refine j_aload_n hF dX7_undo_14 rfl (j_dup hF dX7_undo_15 rfl (j_get hF hpt fl_RX7_232 dX7_undo_16 rfl (j_iconst hF dX7_undo_19 (j_isub hF dX7_undo_20 (j_put hF hpt fl_RX7_232 dX7_undo_21 rfl rfl (Nat.le_of_ble_eq_true rfl) (j_nm (fun X1 eX1 => ?_)))))))
    have hFp1 : FB 0 1 X X1 := FB.up eX1 hpt (by omega) (by omega)
    have hpt := ups eX1
    have ha := hFp1 _ _ _ ha (by omega)
    have h1 := hFp1 _ _ _ h1 (by omega)
    have k1 := hFp1 _ _ _ k1 (by omega)
    have hea := hFp1 _ _ _ hea (by omega)
    refine j_aload_n hF dX7_undo_24 rfl (j_get hF hpt fl_RX7_27 dX7_undo_25 rfl (j_astore_n hF dX7_undo_28 (Nat.le_of_ble_eq_true rfl) rfl (j_aload_n hF dX7_undo_29 rfl (j_aload_n hF dX7_undo_30 rfl (j_get hF hpt fl_RX7_15 dX7_undo_31 rfl ?_)))))
    refine j_aload_n hF dX7_undo_34 rfl (j_get hF hpt fl_RX7_232 dX7_undo_35 rfl (j_aald hF (by decide) ha dX7_undo_38 (by omega) (h4 (sv - 1) (by omega) (by omega)).1 (j_put hF hpt fl_RX7_27 dX7_undo_39 rfl rfl (Nat.le_of_ble_eq_true rfl) (j_nm (fun X2 eX2 => ?_)))))
    have hFp2 : FB 0 1 X1 X2 := FB.up eX2 hpt (by omega) (by omega)
    have hpt := ups eX2
    have ha := hFp2 _ _ _ ha (by omega)
    have h1 := hFp2 _ _ _ h1 (by omega)
    have k1 := hFp2 _ _ _ k1 (by omega)
    have hea := hFp2 _ _ _ hea (by omega)
    refine j_aload_n hF dX7_undo_42 rfl (j_get hF hpt fl_RX7_15 dX7_undo_43 rfl (j_aload_n hF dX7_undo_46 rfl (j_get hF hpt fl_RX7_232 dX7_undo_47 rfl (j_aload_n hF dX7_undo_50 rfl (j_aast hF (by decide) ha h1 rfl dX7_undo_51 (by omega) (j_nm (fun X3 eX3 => ?_)))))))
    have hFs : FB 2 3 X2 X3 := FB.up eX3 ha (by omega) (by omega)
    have ha := ups eX3
    have hpt := hFs _ _ _ hpt (by omega)
    have h1 := hFs _ _ _ h1 (by omega)
    have k1 := hFs _ _ _ k1 (by omega)
    have hea := hFs _ _ _ hea (by omega)
    have hST3 : ∀ i, 0 ≤ i → i < 3 → fs i = some (ad i) ∧ (LB (bs i) ∧ ¬ bs i = B) ∧ ST X3 (bs i) (ad i) (kp i) (rw_ i) := by
      intro i i1 i2
      have w1 := (h4 i i1 i2).2.1.1
      unfold LB at w1
      exact ⟨(h4 i i1 i2).1, (h4 i i1 i2).2.1, ((((h4 i i1 i2).2.2.keep hFp1 (by omega)).keep hFp2 (by omega)).keep hFs (by omega))⟩
    have hSTu : ST X3 B st kn r := (((hST.keep hFp1 (by omega)).keep hFp2 (by omega)).keep hFs (by omega))
    obtain ⟨kr2, hO2, hkr, hSTn⟩ := OT.swap (X' := X3) (kr := kr) (kn := kn) (kp := kp) (rw_ := rw_) hsv1 hpt ha hO.pt.2 hST3 hSTu h5 (fun i i1 i2 => h6 i i1 (by omega)) h7
    have hWR := (((hWR.keep hFp1 (by omega)).keep hFp2 (by omega)).keep hFs (by omega))
    have hGPn := (((hGPn.keep hFp1 (by omega)).keep hFp2 (by omega)).keep hFs (by omega))
    have hGP := (((hGP.keep hFp1 (by omega)).keep hFp2 (by omega)).keep hFs (by omega))
    have hF3 : FB 0 5000 X X3 := ((hFp1.mono (by omega) (by omega)).trans (hFp2.mono (by omega) (by omega))).trans (hFs.mono (by omega) (by omega))
    refine j_aload_n hF dX7_undo_52 rfl (j_get hF hpt fl_RX7_27 dX7_undo_53 rfl (j_get hF k1 fl_RX7_43 dX7_undo_56 rfl (j_aload_n hF dX7_undo_59 rfl (j_get hF h1 fl_RX7_43 dX7_undo_60 rfl (j_callV hF (c_X0_isAsLargeAs hGPn hGP (by omega) (by omega) (by omega) (by omega) (by omega)) ms_X0_isAsLargeAs mv_X0_isAsLargeAs lk_RX7_235 dX7_undo_63 hGPn.1 rfl rfl rfl (by simp [Value.category]) ⟨⟨(Nat.le_of_ble_eq_true rfl), (Nat.le_of_ble_eq_true rfl)⟩, by omega, by omega⟩ (fun v4 X4 hp4 hE4 => ?_))))))
    obtain ⟨rfl, he4⟩ := hp4; obtain rfl := he4.symm
    obtain ⟨yl, hyo⟩ := hWR.obj
    refine j_b_ne hF 76 dX7_undo_66 (by decide) (fun c66 => ?_) (fun c66 => ?_)
    ·
      refine j_aload_n hF dX7_undo_76 rfl (j_get hF hpt fl_RX7_232 dX7_undo_77 rfl (j_iretv hF hR dX7_undo_80 (by omega) (by omega) ?_))
      first
      | (have hP2 := PP.mk hO2 hea (hWR.row hGV.1 (hpx c66.1 c66.2)) (c := ct + 1) (by omega) hSTn
         refine PV ?_ hP2 hF3 (by omega) (by omega) (by omega)
         unfold sp_undo
         rw [if_neg (show ¬ sv = 0 from c4)]
         dsimp only
         rw [pr_und hC])
      | (have hP2 := PP.mk (hO2.keep hFy (by omega)) (hFy _ _ _ hea (by omega)) hWR2 (c := ct + 1) (by omega) (hSTn.keep hFy (by omega))
         refine PV ?_ hP2 (hF3.trans (hFy.mono (by omega) (by omega))) (by omega) (by omega) (by omega)
         unfold sp_undo
         rw [if_neg (show ¬ sv = 0 from c4)]
         dsimp only
         rw [pr_und hC])
    ·
      refine j_aload_n hF dX7_undo_69 rfl (j_get hF hpt fl_RX7_22 dX7_undo_70 rfl (j_callV hF (c_X5_forgets hWR (pr pf (sv - 1))) ms_X5_forget mv_X5_forget lk_RX7_56 dX7_undo_73 hyo rfl rfl rfl (by simp [Value.category]) ⟨⟨(Nat.le_of_ble_eq_true rfl), (Nat.le_of_ble_eq_true rfl)⟩, by omega, by omega⟩ (fun v5 X5 hp5 hE5 => ?_)))
      obtain ⟨rfl, hWR2, hFy⟩ := hp5
      have hpt := hFy _ _ _ hpt (by omega)
      refine j_aload_n hF dX7_undo_76 rfl (j_get hF hpt fl_RX7_232 dX7_undo_77 rfl (j_iretv hF hR dX7_undo_80 (by omega) (by omega) ?_))
      first
      | (have hP2 := PP.mk hO2 hea (hWR.row hGV.1 (hpx c66.1 c66.2)) (c := ct + 1) (by omega) hSTn
         refine PV ?_ hP2 hF3 (by omega) (by omega) (by omega)
         unfold sp_undo
         rw [if_neg (show ¬ sv = 0 from c4)]
         dsimp only
         rw [pr_und hC])
      | (have hP2 := PP.mk (hO2.keep hFy (by omega)) (hFy _ _ _ hea (by omega)) hWR2 (c := ct + 1) (by omega) (hSTn.keep hFy (by omega))
         refine PV ?_ hP2 (hF3.trans (hFy.mono (by omega) (by omega))) (by omega) (by omega) (by omega)
         unfold sp_undo
         rw [if_neg (show ¬ sv = 0 from c4)]
         dsimp only
         rw [pr_und hC])
  ·
    refine j_aload_n hF dX7_undo_7 rfl (j_bipush hF dX7_undo_8 (by decide) (j_callV hF (c_X7_fail hP hE (by omega)) ms_X7_fail mv_X7_fail lk_RX7_35 dX7_undo_10 hpt rfl rfl rfl (by simp [Value.category]) ⟨⟨(Nat.le_of_ble_eq_true rfl), (Nat.le_of_ble_eq_true rfl)⟩, by omega, by omega⟩ (fun v6 X6 hp6 hE6 => ?_)))
    obtain ⟨rfl, hP2, hF2⟩ := hp6
    refine j_iretv hF hR dX7_undo_13 (by omega) (by omega) ?_
    refine PV ?_ (hP2.mono (by omega)) hF2 (by omega) (by omega) (by omega)
    unfold sp_undo
    exact if_pos (show sv = 0 by omega)

