set_option maxRecDepth 100000 in
set_option maxHeartbeats 4000000 in
theorem c_X7_deliver {X : Hp} {pt kap : Nat} {ct : Int} {r pf : Int → Int} {sv : Int} {er : Int → Int} (hP : PP X pt kap ct (r, pf, sv, er)) (hGV : GV r) (hE : EI er)  {w nd o tg : Int} (hct : 0 ≤ ct ∧ ct ≤ 1000) (hsv : 0 ≤ sv ∧ sv ≤ 3) (hA : AS r) {N : Int} (hI : RI r N) (hN : N + 12 < 6145) (h02 : r 2 = 0 ∨ r 2 = 1) (hC : CAN r) (hm : RM2 r) (ho : EO r) (hT : AT r) (hAP : AP_ r) (hvd : VDv r) (h_w : -2147483648 ≤ w ∧ w ≤ 2147483647) (h_nd : -2147483648 ≤ nd ∧ nd ≤ 2147483647) (h_o : -2147483648 ≤ o ∧ o ≤ 2147483647) (h_tg : -2147483648 ≤ tg ∧ tg ≤ 2147483647) : Cv yX7_deliver cX7_deliver 7 (some .int) 8 192 [.ref pt, vi w, vi nd, vi o, vi tg] X (393155 - kap) (6 * (393155 - kap)) (fun rv X' kk nn => rv = some (vi (sp_deliver (r, pf, sv, er) w nd o tg).1) ∧ PPQ X X' pt kap (ct + 1) (sp_deliver (r, pf, sv, er) w nd o tg).2 kk nn) := by
  refine Cv.of (by decide +kernel) [some (.ref pt), some (vi w), some (vi nd), some (vi o), some (vi tg), none, none] rfl (Nat.le_of_ble_eq_true rfl) (fun φ hF hR => ?_)
  obtain ⟨ea, sa, y, st, B, mk, gn, kn, kr, hO, hea, hWR, hgn, hST, hkap⟩ := id hP
  dsimp only at hO hea hWR hST
  obtain ⟨g, ml, ws, va, qa, oe, dc, v_, q_, n_, m_, z_, f_, hS, hV, hQ, hk_⟩ := id hST
  obtain ⟨av, aq, ao, af, h1, ⟨ga, gb, gc, gd, nc, ec, jd, js, je, jk, hGP, hGE⟩, ⟨mz, mt, yz, yt, hMP, x1, x2⟩, ⟨wz, wt, uz, ut, hWP, x3⟩, h5, h6, h7, h8, h9, h10, h11⟩ := id hS
  obtain ⟨g1, g1'⟩ := id hGE.1
  subst g1
  subst g1'
  have hpt := hO.pt.1
  have hLB := hO.pt.2
  unfold LB at hLB
  have b0 := hGV.1.1
  have b1 := hGV.1.2.1
  have hP2 := hP
  have hF2 := FB.refl 0 5000 X
  have hl1 := hST.le
  have hl2 := hO.le
  have hl3 := hWR.mk
  have hl4 : kpo n_ m_ = kn := hk_.symm
  refine j_aload_n hF dX7_deliver_0 rfl (j_get hF hpt fl_RX7_27 dX7_deliver_1 rfl (j_get hF h1 fl_RX7_43 dX7_deliver_4 rfl (j_astore hF dX7_deliver_7 (Nat.le_of_ble_eq_true rfl) rfl (j_iload_n hF dX7_deliver_9 rfl (j_callS hF (c_X7_isWorker (by omega)) ms_X7_isWorker mt_X7_isWorker lk_RX7_111 dX7_deliver_10 rfl rfl rfl (by simp [Value.category]) ⟨⟨(Nat.le_of_ble_eq_true rfl), (Nat.le_of_ble_eq_true rfl)⟩, by omega, by omega⟩ (fun v1 X1 hp1 hE1 => ?_))))))
  obtain ⟨rfl, he1⟩ := hp1; obtain rfl := he1.symm
  refine j_b_eq hF 42 dX7_deliver_13 (by decide) (fun c13 => ?_) (fun c13 => ?_)
  ·
    refine j_aload_n hF dX7_deliver_42 rfl (j_bipush hF dX7_deliver_43 (by decide) (j_callV hF (c_X7_fail hP hE (by omega)) ms_X7_fail mv_X7_fail lk_RX7_35 dX7_deliver_45 hpt rfl rfl rfl (by simp [Value.category]) ⟨⟨(Nat.le_of_ble_eq_true rfl), (Nat.le_of_ble_eq_true rfl)⟩, by omega, by omega⟩ (fun v2 X2 hp2 hE2 => ?_)))
    obtain ⟨rfl, hP2, hF2⟩ := hp2
    refine j_iretv hF hR dX7_deliver_48 (by omega) (by omega) ?_
    refine PV ?_ (hP2.mono (by omega)) hF2 (by omega) (by omega) (by omega)
    unfold sp_deliver
    first | exact pif_f (fun h => c13 h.1.1.1) | exact pif_f (fun h => c22 h.1.1.2) | exact pif_f (fun h => c30 h.1.2) | exact pif_f (fun h => c39 h.2)
  ·
    refine j_aload hF dX7_deliver_16 rfl (j_iload_n hF dX7_deliver_18 rfl (j_callV hF (c_X0_hasNode hGP (by omega) (by omega)) ms_X0_hasNode mv_X0_hasNode lk_RX7_63 dX7_deliver_19 hGP.1 rfl rfl rfl (by simp [Value.category]) ⟨⟨(Nat.le_of_ble_eq_true rfl), (Nat.le_of_ble_eq_true rfl)⟩, by omega, by omega⟩ (fun v3 X3 hp3 hE3 => ?_)))
    obtain ⟨rfl, he3⟩ := hp3; obtain rfl := he3.symm
    refine j_b_eq hF 42 dX7_deliver_22 (by decide) (fun c22 => ?_) (fun c22 => ?_)
    ·
      refine j_aload_n hF dX7_deliver_42 rfl (j_bipush hF dX7_deliver_43 (by decide) (j_callV hF (c_X7_fail hP hE (by omega)) ms_X7_fail mv_X7_fail lk_RX7_35 dX7_deliver_45 hpt rfl rfl rfl (by simp [Value.category]) ⟨⟨(Nat.le_of_ble_eq_true rfl), (Nat.le_of_ble_eq_true rfl)⟩, by omega, by omega⟩ (fun v4 X4 hp4 hE4 => ?_)))
      obtain ⟨rfl, hP2, hF2⟩ := hp4
      refine j_iretv hF hR dX7_deliver_48 (by omega) (by omega) ?_
      refine PV ?_ (hP2.mono (by omega)) hF2 (by omega) (by omega) (by omega)
      unfold sp_deliver
      first | exact pif_f (fun h => c13 h.1.1.1) | exact pif_f (fun h => c22 h.1.1.2) | exact pif_f (fun h => c30 h.1.2) | exact pif_f (fun h => c39 h.2)
    ·
      refine j_iload hF dX7_deliver_25 rfl (j_callS hF (c_X7_isWorker (by omega)) ms_X7_isWorker mt_X7_isWorker lk_RX7_111 dX7_deliver_27 rfl rfl rfl (by simp [Value.category]) ⟨⟨(Nat.le_of_ble_eq_true rfl), (Nat.le_of_ble_eq_true rfl)⟩, by omega, by omega⟩ (fun v5 X5 hp5 hE5 => ?_))
      obtain ⟨rfl, he5⟩ := hp5; obtain rfl := he5.symm
      refine j_b_eq hF 42 dX7_deliver_30 (by decide) (fun c30 => ?_) (fun c30 => ?_)
      ·
        refine j_aload_n hF dX7_deliver_42 rfl (j_bipush hF dX7_deliver_43 (by decide) (j_callV hF (c_X7_fail hP hE (by omega)) ms_X7_fail mv_X7_fail lk_RX7_35 dX7_deliver_45 hpt rfl rfl rfl (by simp [Value.category]) ⟨⟨(Nat.le_of_ble_eq_true rfl), (Nat.le_of_ble_eq_true rfl)⟩, by omega, by omega⟩ (fun v6 X6 hp6 hE6 => ?_)))
        obtain ⟨rfl, hP2, hF2⟩ := hp6
        refine j_iretv hF hR dX7_deliver_48 (by omega) (by omega) ?_
        refine PV ?_ (hP2.mono (by omega)) hF2 (by omega) (by omega) (by omega)
        unfold sp_deliver
        first | exact pif_f (fun h => c13 h.1.1.1) | exact pif_f (fun h => c22 h.1.1.2) | exact pif_f (fun h => c30 h.1.2) | exact pif_f (fun h => c39 h.2)
      ·
        refine j_aload hF dX7_deliver_33 rfl (j_iload_n hF dX7_deliver_35 rfl (j_callV hF (c_X0_hasEdges hGP (by omega) (by omega)) ms_X0_hasEdges mv_X0_hasEdges lk_RX7_140 dX7_deliver_36 hGP.1 rfl rfl rfl (by simp [Value.category]) ⟨⟨(Nat.le_of_ble_eq_true rfl), (Nat.le_of_ble_eq_true rfl)⟩, by omega, by omega⟩ (fun v7 X7 hp7 hE7 => ?_)))
        obtain ⟨rfl, he7⟩ := hp7; obtain rfl := he7.symm
        refine j_b_ne hF 49 dX7_deliver_39 (by decide) (fun c39 => ?_) (fun c39 => ?_)
        ·
          refine j_aload_n hF dX7_deliver_49 rfl (j_iload_n hF dX7_deliver_50 rfl (j_iload_n hF dX7_deliver_51 rfl ?_))
          have hpt10 := pw_top b1
          refine j_callVv hF (c_X7_leastDeliverable hpt hS hV hO.pt.2 hGV hA hT hAP hvd hWR (by omega) c13 (by omega)) ms_X7_leastDeliverable mv_X7_leastDeliverable lk_RX7_176 dX7_deliver_52 hpt rfl rfl rfl (by simp [Value.category]) ⟨⟨(Nat.le_of_ble_eq_true rfl), (Nat.le_of_ble_eq_true rfl)⟩, by omega, by omega⟩ (fun v8 X8 k8 n8 hp8 hE8 => ?_)
          obtain ⟨rfl, mk2, hmk, hW2, hFw, hkk, hnn⟩ := hp8
          have hmk1 := hW2.mk
          have hO := hO.keep hFw (by omega)
          have hpt := hO.pt.1
          have hea := hFw _ _ _ hea (by omega)
          have hS := hS.keep hFw (by omega)
          have hV := hV.keep hFw (by omega)
          have hQ := hQ.keep hFw (by omega)
          have h1 := hS.o1
          have hGP := hGP.keep hFw (by omega)
          have hMP := hMP.keep hFw (by omega)
          have hWR := hW2
          have hP : PP X8 pt (kn + kr + 5067 * mk2) ct (r, pf, sv, er) := PP.mk hO hea hWR hgn ⟨_, _, _, _, _, _, _, _, _, _, _, _, _, hS, hV, hQ, hk_⟩
          have hFX : FB 0 5000 X X8 := hFw.mono (by omega) (by omega)
          have hnx := nx_spec (nd := nd) hA hT c13
          obtain ⟨tt, htt⟩ : ∃ tt, tt = nxt r w nd := ⟨_, rfl⟩
          rw [← htt] at hnx ⊢
          have htr0 : -1 ≤ tt ∧ tt ≤ 999 := by
            rcases hnx with z | z
            · omega
            · omega
          refine j_istore hF dX7_deliver_55 (Nat.le_of_ble_eq_true rfl) rfl (j_iload hF dX7_deliver_57 rfl (j_iconst hF dX7_deliver_59 (j_icmp_eq hF 73 dX7_deliver_60 (by decide) (by omega) (fun c60 => ?_) (fun c60 => ?_))))
          ·
            refine j_aload_n hF dX7_deliver_73 rfl (j_bipush hF dX7_deliver_74 (by decide) (j_callV hF (c_X7_fail hP hE (by omega)) ms_X7_fail mv_X7_fail lk_RX7_35 dX7_deliver_76 hpt rfl rfl rfl (by simp [Value.category]) ⟨⟨(Nat.le_of_ble_eq_true rfl), (Nat.le_of_ble_eq_true rfl)⟩, by omega, by omega⟩ (fun v9 X9 hp9 hE9 => ?_)))
            obtain ⟨rfl, hP2, hF2⟩ := hp9
            refine j_iretv hF hR dX7_deliver_79 (by omega) (by omega) ?_
            refine PV ?_ (hP2.mono (by omega)) (hFX.trans hF2) (by omega) (by omega) (by omega)
            unfold sp_deliver
            first | exact (pif_t ⟨⟨⟨c13, c22⟩, c30⟩, c39⟩).trans (pif_t (Or.inl (by rw [← htt]; exact c60))) | exact (pif_t ⟨⟨⟨c13, c22⟩, c30⟩, c39⟩).trans (pif_t (Or.inr c70))
          ·
            refine j_aload hF dX7_deliver_63 rfl (j_iload_n hF dX7_deliver_65 rfl (j_iload_n hF dX7_deliver_66 rfl (j_callV hF (c_X0_startAllAt hGP (by omega) (by omega) (by omega)) ms_X0_startAllAt mv_X0_startAllAt lk_RX7_149 dX7_deliver_67 hGP.1 rfl rfl rfl (by simp [Value.category]) ⟨⟨(Nat.le_of_ble_eq_true rfl), (Nat.le_of_ble_eq_true rfl)⟩, by omega, by omega⟩ (fun v10 X10 hp10 hE10 => ?_))))
            obtain ⟨rfl, he10⟩ := hp10; obtain rfl := he10.symm
            rw [bz_iff (sa_iff hGE)]
            refine j_b_ne hF 80 dX7_deliver_70 (by decide) (fun c70 => ?_) (fun c70 => ?_)
            ·
              refine j_aload_n hF dX7_deliver_80 rfl (j_get hF hpt fl_RX7_27 dX7_deliver_81 rfl (j_get hF h1 fl_RX7_120 dX7_deliver_84 rfl (j_iload hF dX7_deliver_87 rfl (j_iload_n hF dX7_deliver_89 rfl (j_callV hF (c_X1_isAnyFull hMP c30 (by omega) (fun x x1_ x2_ => by rw [x1 _ (by omega) (by omega)]; exact hm _ (by omega) (by omega))) ms_X1_isAnyFull mv_X1_isAnyFull lk_RX7_152 dX7_deliver_90 hMP.1 rfl rfl rfl (by simp [Value.category]) ⟨⟨(Nat.le_of_ble_eq_true rfl), (Nat.le_of_ble_eq_true rfl)⟩, by omega, by omega⟩ (fun v11 X11 hp11 hE11 => ?_))))))
              obtain ⟨rfl, he11⟩ := hp11; obtain rfl := he11.symm
              rw [bz_iff (af_iff x1 b1 c39 c30)]
              refine j_b_eq hF 103 dX7_deliver_93 (by decide) (fun c93 => ?_) (fun c93 => ?_)
              ·
                have hnp : ¬ (nxt r w nd = -1 ∨ ¬ BA (fun x => hb o x → r (17 + x) = nd) (r 1)) := fun h => h.elim (fun h => c60 (by rw [htt]; exact h)) (fun h => h c70)
                have hnf : ¬ BE (fun x => hb o x ∧ r (47 + (10 * tg + x)) = 12) (r 1) := c93
                have hnf0 : ∀ x, 0 ≤ x → x < r 1 → hb o x → ¬ r (47 + (10 * tg + x)) = 12 := fun x x1 x2 x3 x4 => c93 ⟨x, x1, x2, x3, x4⟩
                obtain ⟨htr, ⟨x0, xa, xb, xc, xd, xe⟩, -⟩ := hnx.resolve_left (fun z => c60 z.1)
                obtain ⟨fa, hfa⟩ := fx_ex (r := r) (w := w) (nd := nd) (t := tt) (x0 - 12 * w).toNat x0 (by omega) xb xc xd
                have hfx : FX r w nd tt (fix r w nd tt) := by rw [fix_eq hfa]; exact hfa
                have hfxb : FX (fu r 2 1) w nd tt (fix (fu r 2 1) w nd tt) := by
                  have z := hfa.ag (AG.b r) c13
                  rw [fix_eq z]; exact z
                have aw := hA w c13.1 (by omega)
                refine j_aload_n hF dX7_deliver_103 rfl (j_callVv hF (c_X7_beginEvent hO ⟨hea, hWR, hS, hV, hQ⟩ hsv hGV.1 hA hI (by omega) h02 hC) ms_X7_beginEvent mv_X7_beginEvent lk_RX7_129 dX7_deliver_104 hpt rfl rfl rfl (by simp [Value.category]) ⟨⟨(Nat.le_of_ble_eq_true rfl), (Nat.le_of_ble_eq_true rfl)⟩, by omega, by omega⟩ (fun v12 X12 k12 n12 hp12 hE12 => ?_))
                obtain ⟨rfl, kr2, hO, ⟨hea, hWR, hS, hV, hQ⟩, hFF0, hb1, hb2, hb3⟩ := hp12
                have hkl2 := hO.le
                have hpt := hO.pt.1
                have h1 := hS.o1
                have hFF := hFX.trans hFF0
                obtain ⟨av2, aq2, ao2, af2, -, -, -, ⟨wz2, wt2, uz2, ut2, hWP, x3⟩, -⟩ := id hS
                have hbw : (fu r 2 1) (307 + w) = r (307 + w) := fu_n (by omega)
                have ew : uz2 w = r (307 + w) := by rw [(x3 w c13.1 c13.2).1, hbw]
                have hex : ∃ j, 0 ≤ j ∧ j < uz2 w ∧ ut2 (12 * w + j) = 1000 * nd + tt := by
                  obtain ⟨j, j1, j2, j3⟩ := bag_mem (a := fun i => 1000 * (fu r 2 1) (309 + (12 * w + i)) + (fu r 2 1) (333 + (12 * w + i))) (b := fun i => ut2 (12 * w + i)) (fun x => ((x3 w c13.1 c13.2).2 x).symm) (i := x0 - 12 * w) (by omega) (by rw [hbw]; omega)
                  rw [hbw] at j2
                  refine ⟨j, j1, by omega, j3.trans ?_⟩
                  show 1000 * (fu r 2 1) (309 + (12 * w + (x0 - 12 * w))) + (fu r 2 1) (333 + (12 * w + (x0 - 12 * w))) = 1000 * nd + tt
                  rw [show 12 * w + (x0 - 12 * w) = x0 by omega, fu_n (by omega), fu_n (by omega), xc, xd]
                refine j_aload_n hF dX7_deliver_107 rfl (j_get hF hpt fl_RX7_27 dX7_deliver_108 rfl (j_get hF h1 fl_RX7_155 dX7_deliver_111 rfl (j_iload_n hF dX7_deliver_114 rfl (j_iload_n hF dX7_deliver_115 rfl (j_iload hF dX7_deliver_116 rfl ?_)))))
                refine j_callS hF (c_X7_stampOf) ms_X7_stampOf mt_X7_stampOf lk_RX7_94 dX7_deliver_118 rfl rfl rfl (by simp [Value.category]) ⟨⟨(Nat.le_of_ble_eq_true rfl), (Nat.le_of_ble_eq_true rfl)⟩, by omega, by omega⟩ (fun v13 X13 hp13 hE13 => ?_)
                obtain ⟨rfl, he13⟩ := hp13; obtain rfl := he13.symm
                refine j_ok (fun hok => ?_)
                refine j_callV hF (c_X6_remove hWP c13 (by rw [ew]; exact aw) (fun i i1_ i2_ => (hok.1 _ _ _ _ _ hWP.2.2).2 i i1_ (by omega)) (by omega) hex) ms_X6_remove mv_X6_remove lk_RX7_179 dX7_deliver_121 hWP.1 rfl rfl rfl (by simp [Value.category]) ⟨⟨(Nat.le_of_ble_eq_true rfl), (Nat.le_of_ble_eq_true rfl)⟩, by omega, by omega⟩ (fun v14 X14 hp14 hE14 => ?_)
                obtain ⟨rfl, ix, ix1, ix2, ix3, hWn⟩ := hp14
                have hFt : FB (B + 30) (B + 40) _ X14 := hWn.2
                have hto : ∀ i, i < 307 ∨ 357 ≤ i → (m_out (fu r 2 1) w nd tt) i = (fu r 2 1) i := fun i hi => m_out_n c13 hA.b hfxb hi
                have hHn : HR X14 (B + 30) ws (m_out (fu r 2 1) w nd tt) := by
                  refine ⟨_, _, _, _, hWn.1, fun z z1 z2 => ⟨?_, ?_⟩⟩
                  · rw [out_z c13 hA.b hfxb ⟨z1, z2⟩]
                    by_cases qz : z = w
                    · rw [if_pos qz, qz, fu_s, (x3 w c13.1 c13.2).1]
                    · rw [if_neg qz, fu_n qz]; exact (x3 z z1 z2).1
                  · rw [(x3 w c13.1 c13.2).1]; exact (x3 z z1 z2).2.out hA.b c13 ⟨z1, z2⟩ hfxb ⟨ix1, by rw [hbw, ← ew]; exact ix2⟩ ix3
                have hS := hS.wish hGV.1.b hHn hFt (fun i _ hi => hto i hi)
                have hV := (hV.keep hFt (by omega)).row (r' := (m_out (fu r 2 1) w nd tt)) (fun i _ => hto i (by omega))
                have hQ := (hQ.keep hFt (by omega)).row (r' := (m_out (fu r 2 1) w nd tt)) (fun i _ _ => hto i (by omega))
                have hO := hO.keep hFt (by omega)
                have hpt := hO.pt.1
                have h1 := hS.o1
                have hea := hFt _ _ _ hea (by omega)
                have hFF := hFF.trans (hFt.mono (by omega) (by omega))
                have hsg1 : SG (fu r 2 1) (m_out (fu r 2 1) w nd tt) := fun i _ i2 _ _ => hto i (by omega)
                have hWR := (hWR.keep hFt (by omega)).row hGV.1.b hsg1
                have hG1 := hsg1.gi hGV.1.b
                have hA1 : AS (m_out (fu r 2 1) w nd tt) := by
                  intro z z1 z2
                  rw [out_z c13 hA.b hfxb ⟨z1, by omega⟩]
                  have z3 := hA.b z z1 z2
                  have z4 := hfxb.1
                  split
                  · next qz => rw [← qz] at z4; rw [← qz]; omega
                  · exact z3
                have hI1 : RI (m_out (fu r 2 1) w nd tt) N := (RI_b hI).row (fun i _ _ => hto i (by omega))
                have h21 : (m_out (fu r 2 1) w nd tt) 2 = 1 := by rw [hto 2 (by omega), fu_s]
                have h11 : (m_out (fu r 2 1) w nd tt) 1 = r 1 := by rw [hto 1 (by omega), fu_n (by omega)]
                have hM1 : RM2 (m_out (fu r 2 1) w nd tt) := fun l l1 l2 => by rw [hto _ (by omega), fu_n (by omega)]; exact hm l l1 l2
                have hf1 : ∀ x, 0 ≤ x → x < r 1 → hb o x → (m_out (fu r 2 1) w nd tt) (47 + (10 * tg + x)) < 12 := fun x x1_ x2_ x3_ => by rw [hto _ (by omega), fu_n (by omega)]; have z1 := hnf0 x x1_ x2_ x3_; have z2 := hm (10 * tg + x) (by omega) (by omega); omega
                refine j_aload_n hF dX7_deliver_124 rfl (j_get hF hpt fl_RX7_27 dX7_deliver_125 rfl (j_iload_n hF dX7_deliver_128 rfl (j_iload_n hF dX7_deliver_129 rfl (j_iload hF dX7_deliver_130 rfl (j_iload hF dX7_deliver_132 rfl ?_)))))
                refine j_callVv hF (c_X2_putMessages (N := N) (r := (m_out (fu r 2 1) w nd tt)) ⟨g, ml, ws, va, qa, oe, dc, v_, q_, n_, m_, z_, f_, hS, hV, hQ, rfl⟩ hG1 hA1 hI1 hM1 (by omega) h21 c13 (by omega) c30 htr (by rw [h11]; exact hf1)) ms_X2_putMessages mv_X2_putMessages lk_RX7_166 dX7_deliver_134 h1 rfl rfl rfl (by simp [Value.category]) ⟨⟨(Nat.le_of_ble_eq_true rfl), (Nat.le_of_ble_eq_true rfl)⟩, by omega, by omega⟩ (fun v15 X15 k15 n15 hp15 hE15 => ?_)
                obtain ⟨rfl, kn3, hST3, hFq3, hq13, hq23, hq33⟩ := hp15
                have hq43 := hST3.le
                have hO := hO.keep hFq3 (by omega)
                have hpt := hO.pt.1
                obtain ⟨ol3, h1⟩ := hST3.obj
                have hea := hFq3 _ _ _ hea (by omega)
                have hFF := hFF.trans (hFq3.mono (by omega) (by omega))
                obtain ⟨i1, i2, i3, i4⟩ := m_pa_inv (w := w) (o := o) (tg := tg) (t := tt) (E := r 1) hI1 hM1 (by omega) c13 c30 htr b1.2 hf1 ((m_out (fu r 2 1) w nd tt) 1).toNat (by omega)
                have hsg3 : SG (m_out (fu r 2 1) w nd tt) (m_pa w o tg tt ((m_out (fu r 2 1) w nd tt) 1).toNat (m_out (fu r 2 1) w nd tt)) := fun i _ i2_ i3_ _ => i2 i (by omega) (by omega)
                have hWR := (hWR.keep hFq3 (by omega)).row hG1 hsg3
                have hG3 := hsg3.gi hG1
                have hA3 : AS (m_pa w o tg tt ((m_out (fu r 2 1) w nd tt) 1).toNat (m_out (fu r 2 1) w nd tt)) := hA1.row (fun i _ _ => i2 i (by omega) (by omega))
                have hI3 : RI (m_pa w o tg tt ((m_out (fu r 2 1) w nd tt) 1).toNat (m_out (fu r 2 1) w nd tt)) (N + 10) := i1.mono (by omega)
                have h23 := m_pa_2 (w := w) (o := o) (tg := tg) (t := tt) h21 ((m_out (fu r 2 1) w nd tt) 1).toNat
                refine j_aload_n hF dX7_deliver_137 rfl (j_get hF hpt fl_RX7_27 dX7_deliver_138 rfl (j_iload_n hF dX7_deliver_141 rfl (j_iload_n hF dX7_deliver_142 rfl (j_iload hF dX7_deliver_143 rfl (j_callS hF (c_X7_stampOf) ms_X7_stampOf mt_X7_stampOf lk_RX7_94 dX7_deliver_145 rfl rfl rfl (by simp [Value.category]) ⟨⟨(Nat.le_of_ble_eq_true rfl), (Nat.le_of_ble_eq_true rfl)⟩, by omega, by omega⟩ (fun v16 X16 hp16 hE16 => ?_))))))
                obtain ⟨rfl, he16⟩ := hp16; obtain rfl := he16.symm
                refine j_iconst hF dX7_deliver_148 (j_callVv hF (c_X2_update (p := nd) (t := tt) (c := -1) (N := N + 10) hST3 hG3 hA3 hI3 (by omega) h23 c13 (by omega) htr (by omega)) ms_X2_update mv_X2_update lk_RX7_136 dX7_deliver_149 h1 rfl rfl rfl (by simp [Value.category]) ⟨⟨(Nat.le_of_ble_eq_true rfl), (Nat.le_of_ble_eq_true rfl)⟩, by omega, by omega⟩ (fun v17 X17 k17 n17 hp17 hE17 => ?_))
                obtain ⟨rfl, kn4, hST4, hFq4, hq14, hq24, hq34⟩ := hp17
                have hq44 := hST4.le
                have hO := hO.keep hFq4 (by omega)
                have hpt := hO.pt.1
                obtain ⟨ol4, h1⟩ := hST4.obj
                have hea := hFq4 _ _ _ hea (by omega)
                have hFF := hFF.trans (hFq4.mono (by omega) (by omega))
                have hsg4 : SG (m_pa w o tg tt ((m_out (fu r 2 1) w nd tt) 1).toNat (m_out (fu r 2 1) w nd tt)) (m_upd (m_pa w o tg tt ((m_out (fu r 2 1) w nd tt) 1).toNat (m_out (fu r 2 1) w nd tt)) w nd tt (-1)) := SG.upd hI3 c13 (by omega) htr
                have hWR := (hWR.keep hFq4 (by omega)).row hG3 hsg4
                have hG4 := hsg4.gi hG3
                have hup : ∀ i, ¬ i = 2 → (i < 357 ∨ (358 < i ∧ i < 6359)) → (m_upd (m_pa w o tg tt ((m_out (fu r 2 1) w nd tt) 1).toNat (m_out (fu r 2 1) w nd tt)) w nd tt (-1)) i = (m_pa w o tg tt ((m_out (fu r 2 1) w nd tt) 1).toNat (m_out (fu r 2 1) w nd tt)) i := fun i hi h5 => m_upd_lo hI3 c13 (by omega) htr hi h5
                have hA4 : AS (m_upd (m_pa w o tg tt ((m_out (fu r 2 1) w nd tt) 1).toNat (m_out (fu r 2 1) w nd tt)) w nd tt (-1)) := hA3.row (fun i _ _ => hup i (by omega) (by omega))
                refine j_aload_n hF dX7_deliver_152 rfl (j_get hF hpt fl_RX7_27 dX7_deliver_153 rfl (j_iload_n hF dX7_deliver_156 rfl (j_iload hF dX7_deliver_157 rfl (j_callV hF (c_X2_recordDelivery hST4 hG4 hA4 (by omega) htr) ms_X2_recordDelivery mv_X2_recordDelivery lk_RX7_182 dX7_deliver_159 h1 rfl rfl rfl (by simp [Value.category]) ⟨⟨(Nat.le_of_ble_eq_true rfl), (Nat.le_of_ble_eq_true rfl)⟩, by omega, by omega⟩ (fun v18 X18 hp18 hE18 => ?_)))))
                obtain ⟨rfl, hST5, hFd⟩ := hp18
                refine j_iload hF dX7_deliver_162 rfl (j_iretv hF hR dX7_deliver_164 (by omega) (by omega) ?_)
                have h4x : ∀ i, ¬ i = 3 → ¬ i = 359 + 1000 * nd + tt → (fu (fu (m_upd (m_pa w o tg tt ((m_out (fu r 2 1) w nd tt) 1).toNat (m_out (fu r 2 1) w nd tt)) w nd tt (-1)) 3 ((m_upd (m_pa w o tg tt ((m_out (fu r 2 1) w nd tt) 1).toNat (m_out (fu r 2 1) w nd tt)) w nd tt (-1)) 3 + 1)) (359 + 1000 * nd + tt) 1) i = (m_upd (m_pa w o tg tt ((m_out (fu r 2 1) w nd tt) 1).toNat (m_out (fu r 2 1) w nd tt)) w nd tt (-1)) i := fun i hi h5 => by rw [fu_n h5, fu_n hi]
                have hWR := (hWR.keep hFd (by omega)).row hG4 (show SG (m_upd (m_pa w o tg tt ((m_out (fu r 2 1) w nd tt) 1).toNat (m_out (fu r 2 1) w nd tt)) w nd tt (-1)) (fu (fu (m_upd (m_pa w o tg tt ((m_out (fu r 2 1) w nd tt) 1).toNat (m_out (fu r 2 1) w nd tt)) w nd tt (-1)) 3 ((m_upd (m_pa w o tg tt ((m_out (fu r 2 1) w nd tt) 1).toNat (m_out (fu r 2 1) w nd tt)) w nd tt (-1)) 3 + 1)) (359 + 1000 * nd + tt) 1) from fun i _ _ h5 _ => h4x i (by omega) (by omega))
                have hP2 := PP.mk (hO.keep hFd (by omega)) (hFd _ _ _ hea (by omega)) hWR (c := ct + 1) (by omega) hST5
                refine PV ?_ hP2 (hFF.trans (hFd.mono (by omega) (by omega))) (by omega) (by omega) (by omega)
                have hKK : KK (fun i => ¬ i = 2 ∧ ¬ i = 3 ∧ ¬ i = 359 + 1000 * nd + tt) := fun i hi => by omega
                have hago := (AG.b r).out c13 hfx
                have hD0 : ∀ i, ¬ i = 3 → ¬ i = 359 + 1000 * nd + tt → (m_del0 r w nd tt) i = m_out r w nd tt i := fun i hi h5 => by unfold m_del0; rw [fu_n h5, fu_n hi]
                have hto2 : ∀ i, i < 307 ∨ 357 ≤ i → m_out r w nd tt i = r i := fun i hi => m_out_n c13 hA hfx hi
                have hD1 : (m_del0 r w nd tt) 1 = r 1 := by rw [hD0 1 (by omega) (by omega), hto2 1 (by omega)]
                have hak : AK (fun i => ¬ i = 2 ∧ ¬ i = 3 ∧ ¬ i = 359 + 1000 * nd + tt) (m_out (fu r 2 1) w nd tt) (m_del0 r w nd tt) := fun i hi => by rw [hD0 i hi.2.1 hi.2.2]; exact hago i hi.1
                have hak2 : AK (fun i => ¬ i = 2 ∧ ¬ i = 3 ∧ ¬ i = 359 + 1000 * nd + tt) (m_pa w o tg tt ((m_out (fu r 2 1) w nd tt) 1).toNat (m_out (fu r 2 1) w nd tt)) (m_pa w o tg tt ((m_del0 r w nd tt) 1).toNat (m_del0 r w nd tt)) := by
                  rw [h11, hD1]
                  exact AK.pa hKK hak c13 c30 htr.1 _ (by omega)
                have hak3 : AK (fun i => ¬ i = 2 ∧ ¬ i = 3 ∧ ¬ i = 359 + 1000 * nd + tt) (m_upd (m_pa w o tg tt ((m_out (fu r 2 1) w nd tt) 1).toNat (m_out (fu r 2 1) w nd tt)) w nd tt (-1)) (m_upd (m_pa w o tg tt ((m_del0 r w nd tt) 1).toNat (m_del0 r w nd tt)) w nd tt (-1)) := AK.upd hKK hak2 c13 (by omega) htr.1
                have hID : RI (m_del0 r w nd tt) N := hI.row (fun i _ _ => by rw [hD0 i (by omega) (by omega), hto2 i (by omega)])
                have hMD : RM2 (m_del0 r w nd tt) := fun l l1 l2 => by rw [hD0 _ (by omega) (by omega), hto2 _ (by omega)]; exact hm l l1 l2
                obtain ⟨j1, j2, j3, j4⟩ := m_pa_inv (w := w) (o := o) (tg := tg) (t := tt) (E := r 1) hID hMD (by omega) c13 c30 htr b1.2 (fun x x1_ x2_ x3_ => by rw [hD0 _ (by omega) (by omega), hto2 _ (by omega)]; have z1 := hnf0 x x1_ x2_ x3_; have z2 := hm (10 * tg + x) (by omega) (by omega); omega) ((m_del0 r w nd tt) 1).toNat (by omega)
                have hj1 : RI (m_pa w o tg tt ((m_del0 r w nd tt) 1).toNat (m_del0 r w nd tt)) (N + 10) := j1.mono (by omega)
                have hrow : (fu (fu (m_upd (m_pa w o tg tt ((m_out (fu r 2 1) w nd tt) 1).toNat (m_out (fu r 2 1) w nd tt)) w nd tt (-1)) 3 ((m_upd (m_pa w o tg tt ((m_out (fu r 2 1) w nd tt) 1).toNat (m_out (fu r 2 1) w nd tt)) w nd tt (-1)) 3 + 1)) (359 + 1000 * nd + tt) 1) = m_del r w nd o tg tt := by
                  funext i
                  show _ = m_upd (m_pa w o tg tt ((m_del0 r w nd tt) 1).toNat (m_del0 r w nd tt)) w nd tt (-1) i
                  by_cases qa : i = 359 + 1000 * nd + tt
                  · rw [qa, fu_s, m_upd_lo hj1 c13 (by omega) htr (by omega) (by omega), j2 _ (by omega) (by omega)]
                    unfold m_del0; rw [fu_s]
                  · by_cases qb : i = 3
                    · rw [qb, fu_n (by omega), fu_s, m_upd_lo hj1 c13 (by omega) htr (by omega) (by omega), j2 _ (by omega) (by omega), hup 3 (by omega) (by omega), i2 3 (by omega) (by omega)]
                      unfold m_del0
                      rw [fu_n (by omega), fu_s, hago 3 (by omega)]
                    · rw [h4x i qb qa]
                      by_cases qc : i = 2
                      · rw [qc]; unfold m_upd; rw [fu_s, fu_s]
                      · exact hak3 i ⟨qc, qb, qa⟩
                unfold sp_deliver
                refine (pif_t ⟨⟨⟨c13, c22⟩, c30⟩, c39⟩).trans ((pif_f hnp).trans ((pif_f hnf).trans ?_))
                unfold sp_new
                dsimp only
                rw [← htt, hrow]
              ·
                refine j_aload_n hF dX7_deliver_96 rfl (j_bipush hF dX7_deliver_97 (by decide) (j_callV hF (c_X7_fail hP hE (by omega)) ms_X7_fail mv_X7_fail lk_RX7_35 dX7_deliver_99 hpt rfl rfl rfl (by simp [Value.category]) ⟨⟨(Nat.le_of_ble_eq_true rfl), (Nat.le_of_ble_eq_true rfl)⟩, by omega, by omega⟩ (fun v19 X19 hp19 hE19 => ?_)))
                obtain ⟨rfl, hP2, hF2⟩ := hp19
                refine j_iretv hF hR dX7_deliver_102 (by omega) (by omega) ?_
                refine PV ?_ (hP2.mono (by omega)) (hFX.trans hF2) (by omega) (by omega) (by omega)
                have hnp : ¬ (nxt r w nd = -1 ∨ ¬ BA (fun x => hb o x → r (17 + x) = nd) (r 1)) := fun h => h.elim (fun h => c60 (by rw [htt]; exact h)) (fun h => h c70)
                unfold sp_deliver
                exact (pif_t ⟨⟨⟨c13, c22⟩, c30⟩, c39⟩).trans ((pif_f hnp).trans (pif_t c93))
            ·
              refine j_aload_n hF dX7_deliver_73 rfl (j_bipush hF dX7_deliver_74 (by decide) (j_callV hF (c_X7_fail hP hE (by omega)) ms_X7_fail mv_X7_fail lk_RX7_35 dX7_deliver_76 hpt rfl rfl rfl (by simp [Value.category]) ⟨⟨(Nat.le_of_ble_eq_true rfl), (Nat.le_of_ble_eq_true rfl)⟩, by omega, by omega⟩ (fun v20 X20 hp20 hE20 => ?_)))
              obtain ⟨rfl, hP2, hF2⟩ := hp20
              refine j_iretv hF hR dX7_deliver_79 (by omega) (by omega) ?_
              refine PV ?_ (hP2.mono (by omega)) (hFX.trans hF2) (by omega) (by omega) (by omega)
              unfold sp_deliver
              first | exact (pif_t ⟨⟨⟨c13, c22⟩, c30⟩, c39⟩).trans (pif_t (Or.inl (by rw [← htt]; exact c60))) | exact (pif_t ⟨⟨⟨c13, c22⟩, c30⟩, c39⟩).trans (pif_t (Or.inr c70))
        ·
          refine j_aload_n hF dX7_deliver_42 rfl (j_bipush hF dX7_deliver_43 (by decide) (j_callV hF (c_X7_fail hP hE (by omega)) ms_X7_fail mv_X7_fail lk_RX7_35 dX7_deliver_45 hpt rfl rfl rfl (by simp [Value.category]) ⟨⟨(Nat.le_of_ble_eq_true rfl), (Nat.le_of_ble_eq_true rfl)⟩, by omega, by omega⟩ (fun v21 X21 hp21 hE21 => ?_)))
          obtain ⟨rfl, hP2, hF2⟩ := hp21
          refine j_iretv hF hR dX7_deliver_48 (by omega) (by omega) ?_
          refine PV ?_ (hP2.mono (by omega)) hF2 (by omega) (by omega) (by omega)
          unfold sp_deliver
          first | exact pif_f (fun h => c13 h.1.1.1) | exact pif_f (fun h => c22 h.1.1.2) | exact pif_f (fun h => c30 h.1.2) | exact pif_f (fun h => c39 h.2)

