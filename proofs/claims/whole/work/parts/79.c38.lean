def VDm (r : Int → Int) : Prop := ∀ w e i, 0 ≤ w → w ≤ 1 → 0 ≤ e → e < r 1 → 0 ≤ i → i < r (47 + (10 * w + e)) → VS r (1000 * (6 + e) + r (67 + 12 * (10 * w + e) + i))
theorem sa_iff {r : Int → Int} {nc : Int} {fd fs fe fk : Int → Int} (h : GE r nc (r 1) fd fs fe fk) {o nd : Int} : BA (fun x => hb o x → fs x = nd) (r 1) ↔ BA (fun x => hb o x → r (17 + x) = nd) (r 1) :=
  ⟨fun g x x1 x2 x3 => by rw [← (h.2.2 x x1 x2).1]; exact g x x1 x2 x3, fun g x x1 x2 x3 => by rw [(h.2.2 x x1 x2).1]; exact g x x1 x2 x3⟩
theorem af_iff {r yz : Int → Int} {o tg : Int} (h : ∀ j, 0 ≤ j → j < 20 → yz j = r (47 + j)) (hb1 : 0 ≤ r 1 ∧ r 1 ≤ 10) (ho : 0 ≤ o ∧ o ≤ pw (r 1) - 1) (htg : 0 ≤ tg ∧ tg ≤ 1) : BE (fun x => hb o x ∧ yz (10 * tg + x) = 12) 10 ↔ BE (fun x => hb o x ∧ r (47 + (10 * tg + x)) = 12) (r 1) := by
  constructor
  · rintro ⟨x, x1, x2, x3, x4⟩
    exact ⟨x, x1, hb_lt ho hb1 x1 x3, x3, by rw [← h _ (by omega) (by omega)]; exact x4⟩
  · rintro ⟨x, x1, x2, x3, x4⟩
    exact ⟨x, x1, by omega, x3, by rw [h _ (by omega) (by omega)]; exact x4⟩
theorem MR.take {X1 : Hp} {b ml mz mt : Nat} {yz yt r : Int → Int} {l : Int} (hl : 0 ≤ l ∧ l < 20) (hz : 1 ≤ r (47 + l) ∧ r (47 + l) ≤ 12) (h1 : ∀ j, 0 ≤ j → j < 20 → yz j = r (47 + j)) (h2 : ∀ j, 0 ≤ j → j < 240 → yt j = r (67 + j)) (h : MP X1 b ml mz mt (fu yz l (yz l - 1)) (fc yt yt (12 * l + 1) (12 * l) (yz l - 1))) : MR X1 b ml (m_take r l) := by
  refine ⟨mz, mt, _, _, h, fun j j1 j2 => ?_, fun j j1 j2 => ?_⟩
  · by_cases q : j = l
    · rw [q, fu_s, m_take_c hl, h1 l hl.1 hl.2]
    · rw [fu_n q, m_take_n hz.2 (by omega) (by omega)]; exact h1 j j1 j2
  · have e1 := h1 l hl.1 hl.2
    by_cases q : 12 * l ≤ j ∧ j < 12 * l + (r (47 + l) - 1)
    · rw [fcI q.1 (by omega), m_take_m hl (by omega) (by omega), h2 _ (by omega) (by omega)]
      congr 1; omega
    · rw [fcO (by omega), h2 j j1 j2]
      unfold m_take m_tk
      rw [if_neg (by omega), fu_n (by omega)]
theorem AK.tr {K : Int → Prop} {f g h : Int → Int} (a : AK K f g) (b : AK K g h) : AK K f h := fun i hi => (a i hi).trans (b i hi)
theorem mvio_eq {r r' : Int → Int} {nd t : Int} (hn : 0 ≤ nd ∧ nd < 6) (e : ∀ i, 359 ≤ i → i < 6359 → r' i = r i) : m_vio r' nd t ↔ m_vio r nd t := by
  constructor
  · rintro ⟨x, x1, x2, x3, x4⟩
    exact ⟨x, x1, x2, by rw [← e _ (by omega) (by omega)]; exact x3, x4⟩
  · rintro ⟨x, x1, x2, x3, x4⟩
    exact ⟨x, x1, x2, by rw [e _ (by omega) (by omega)]; exact x3, x4⟩
set_option maxRecDepth 100000 in
set_option maxHeartbeats 4000000 in
theorem c_X7_process {X : Hp} {pt kap : Nat} {ct : Int} {r pf : Int → Int} {sv : Int} {er : Int → Int} (hP : PP X pt kap ct (r, pf, sv, er)) (hGV : GV r) (hE : EI er)  {w e o tg u : Int} (hsv : 0 ≤ sv ∧ sv ≤ 3) (hA : AS r) {N : Int} (hI : RI r N) (hN : N + 12 < 6145) (h02 : r 2 = 0 ∨ r 2 = 1) (hC : CAN r) (hm : RM2 r) (ho : EO r) (hvm : VDm r) (hmt : MTM r) (h_w : -2147483648 ≤ w ∧ w ≤ 2147483647) (h_e : -2147483648 ≤ e ∧ e ≤ 2147483647) (h_o : -2147483648 ≤ o ∧ o ≤ 2147483647) (h_tg : -2147483648 ≤ tg ∧ tg ≤ 2147483647) (h_u : -2147483648 ≤ u ∧ u ≤ 2147483647) : Cv yX7_process cX7_process 10 (some .int) 8 192 [.ref pt, vi w, vi e, vi o, vi tg, vi u] X (393155 - kap) (6 * (393155 - kap)) (fun rv X' kk nn => rv = some (vi (sp_process (r, pf, sv, er) w e o tg u).1) ∧ PPQ X X' pt kap (ct + 1) (sp_process (r, pf, sv, er) w e o tg u).2 kk nn) := by
  refine Cv.of (by decide +kernel) [some (.ref pt), some (vi w), some (vi e), some (vi o), some (vi tg), some (vi u), none, none, none, none] rfl (Nat.le_of_ble_eq_true rfl) (fun φ hF hR => ?_)
  obtain ⟨ea, sa, y, st, B, mk, gn, kn, kr, hO, hea, hWR, hgn, hST, hkap⟩ := id hP
  dsimp only at hO hea hWR hST
  obtain ⟨g, ml, ws, va, qa, oe, dc, v_, q_, n_, m_, z_, f_, hS, hV, hQ, hk_⟩ := id hST
  obtain ⟨av, aq, ao, af, h1, ⟨ga, gb, gc, gd, nc, ec, jd, js, je, jk, hGP, hGE⟩, ⟨mz, mt, yz, yt, hMP, x1, x2⟩, ⟨wz, wt, uz, ut, hWP, x3⟩, h5, h6, h7, h8, h9, h10, h11⟩ := id hS
  obtain ⟨g1, g1'⟩ := id hGE.1
  subst g1
  subst g1'
  have hpt := hO.pt.1
  have hLB := hO.pt.2
  unfold LB at hLB
  have b0 := hGV.1.1
  have b1 := hGV.1.2.1
  have hP2 := hP
  have hF2 := FB.refl 0 5000 X
  have hl1 := hST.le
  have hl2 := hO.le
  have hl3 := hWR.mk
  have hl4 : kpo n_ m_ = kn := hk_.symm
  refine j_aload_n hF dX7_process_0 rfl (j_get hF hpt fl_RX7_27 dX7_process_1 rfl (j_get hF h1 fl_RX7_43 dX7_process_4 rfl (j_astore hF dX7_process_7 (Nat.le_of_ble_eq_true rfl) rfl (j_iload_n hF dX7_process_9 rfl (j_callS hF (c_X7_isWorker (by omega)) ms_X7_isWorker mt_X7_isWorker lk_RX7_111 dX7_process_10 rfl rfl rfl (by simp [Value.category]) ⟨⟨(Nat.le_of_ble_eq_true rfl), (Nat.le_of_ble_eq_true rfl)⟩, by omega, by omega⟩ (fun v1 X1 hp1 hE1 => ?_))))))
  obtain ⟨rfl, he1⟩ := hp1; obtain rfl := he1.symm
  refine j_b_eq hF 50 dX7_process_13 (by decide) (fun c13 => ?_) (fun c13 => ?_)
  ·
    refine j_aload_n hF dX7_process_50 rfl (j_bipush hF dX7_process_51 (by decide) (j_callV hF (c_X7_fail hP hE (by omega)) ms_X7_fail mv_X7_fail lk_RX7_35 dX7_process_53 hpt rfl rfl rfl (by simp [Value.category]) ⟨⟨(Nat.le_of_ble_eq_true rfl), (Nat.le_of_ble_eq_true rfl)⟩, by omega, by omega⟩ (fun v2 X2 hp2 hE2 => ?_)))
    obtain ⟨rfl, hP2, hF2⟩ := hp2
    refine j_iretv hF hR dX7_process_56 (by omega) (by omega) ?_
    refine PV ?_ (hP2.mono (by omega)) hF2 (by omega) (by omega) (by omega)
    unfold sp_process
    first | exact pif_f (fun h => c13 h.1.1.1.1) | exact pif_f (fun h => c22 h.1.1.1.2) | exact pif_f (fun h => c30 h.1.1.2) | exact pif_f (fun h => c38 h.1.2) | exact pif_f (fun h => c47 h.2)
  ·
    refine j_aload hF dX7_process_16 rfl (j_iload_n hF dX7_process_18 rfl (j_callV hF (c_X0_hasEdge hGP (by omega) (by omega)) ms_X0_hasEdge mv_X0_hasEdge lk_RX7_80 dX7_process_19 hGP.1 rfl rfl rfl (by simp [Value.category]) ⟨⟨(Nat.le_of_ble_eq_true rfl), (Nat.le_of_ble_eq_true rfl)⟩, by omega, by omega⟩ (fun v3 X3 hp3 hE3 => ?_)))
    obtain ⟨rfl, he3⟩ := hp3; obtain rfl := he3.symm
    refine j_b_eq hF 50 dX7_process_22 (by decide) (fun c22 => ?_) (fun c22 => ?_)
    ·
      refine j_aload_n hF dX7_process_50 rfl (j_bipush hF dX7_process_51 (by decide) (j_callV hF (c_X7_fail hP hE (by omega)) ms_X7_fail mv_X7_fail lk_RX7_35 dX7_process_53 hpt rfl rfl rfl (by simp [Value.category]) ⟨⟨(Nat.le_of_ble_eq_true rfl), (Nat.le_of_ble_eq_true rfl)⟩, by omega, by omega⟩ (fun v4 X4 hp4 hE4 => ?_)))
      obtain ⟨rfl, hP2, hF2⟩ := hp4
      refine j_iretv hF hR dX7_process_56 (by omega) (by omega) ?_
      refine PV ?_ (hP2.mono (by omega)) hF2 (by omega) (by omega) (by omega)
      unfold sp_process
      first | exact pif_f (fun h => c13 h.1.1.1.1) | exact pif_f (fun h => c22 h.1.1.1.2) | exact pif_f (fun h => c30 h.1.1.2) | exact pif_f (fun h => c38 h.1.2) | exact pif_f (fun h => c47 h.2)
    ·
      refine j_iload hF dX7_process_25 rfl (j_callS hF (c_X7_isWorker (by omega)) ms_X7_isWorker mt_X7_isWorker lk_RX7_111 dX7_process_27 rfl rfl rfl (by simp [Value.category]) ⟨⟨(Nat.le_of_ble_eq_true rfl), (Nat.le_of_ble_eq_true rfl)⟩, by omega, by omega⟩ (fun v5 X5 hp5 hE5 => ?_))
      obtain ⟨rfl, he5⟩ := hp5; obtain rfl := he5.symm
      refine j_b_eq hF 50 dX7_process_30 (by decide) (fun c30 => ?_) (fun c30 => ?_)
      ·
        refine j_aload_n hF dX7_process_50 rfl (j_bipush hF dX7_process_51 (by decide) (j_callV hF (c_X7_fail hP hE (by omega)) ms_X7_fail mv_X7_fail lk_RX7_35 dX7_process_53 hpt rfl rfl rfl (by simp [Value.category]) ⟨⟨(Nat.le_of_ble_eq_true rfl), (Nat.le_of_ble_eq_true rfl)⟩, by omega, by omega⟩ (fun v6 X6 hp6 hE6 => ?_)))
        obtain ⟨rfl, hP2, hF2⟩ := hp6
        refine j_iretv hF hR dX7_process_56 (by omega) (by omega) ?_
        refine PV ?_ (hP2.mono (by omega)) hF2 (by omega) (by omega) (by omega)
        unfold sp_process
        first | exact pif_f (fun h => c13 h.1.1.1.1) | exact pif_f (fun h => c22 h.1.1.1.2) | exact pif_f (fun h => c30 h.1.1.2) | exact pif_f (fun h => c38 h.1.2) | exact pif_f (fun h => c47 h.2)
      ·
        refine j_iload hF dX7_process_33 rfl (j_callS hF (c_X7_isFlag (by omega)) ms_X7_isFlag mt_X7_isFlag lk_RX7_31 dX7_process_35 rfl rfl rfl (by simp [Value.category]) ⟨⟨(Nat.le_of_ble_eq_true rfl), (Nat.le_of_ble_eq_true rfl)⟩, by omega, by omega⟩ (fun v7 X7 hp7 hE7 => ?_))
        obtain ⟨rfl, he7⟩ := hp7; obtain rfl := he7.symm
        refine j_b_eq hF 50 dX7_process_38 (by decide) (fun c38 => ?_) (fun c38 => ?_)
        ·
          refine j_aload_n hF dX7_process_50 rfl (j_bipush hF dX7_process_51 (by decide) (j_callV hF (c_X7_fail hP hE (by omega)) ms_X7_fail mv_X7_fail lk_RX7_35 dX7_process_53 hpt rfl rfl rfl (by simp [Value.category]) ⟨⟨(Nat.le_of_ble_eq_true rfl), (Nat.le_of_ble_eq_true rfl)⟩, by omega, by omega⟩ (fun v8 X8 hp8 hE8 => ?_)))
          obtain ⟨rfl, hP2, hF2⟩ := hp8
          refine j_iretv hF hR dX7_process_56 (by omega) (by omega) ?_
          refine PV ?_ (hP2.mono (by omega)) hF2 (by omega) (by omega) (by omega)
          unfold sp_process
          first | exact pif_f (fun h => c13 h.1.1.1.1) | exact pif_f (fun h => c22 h.1.1.1.2) | exact pif_f (fun h => c30 h.1.1.2) | exact pif_f (fun h => c38 h.1.2) | exact pif_f (fun h => c47 h.2)
        ·
          refine j_aload hF dX7_process_41 rfl (j_iload_n hF dX7_process_43 rfl (j_callV hF (c_X0_hasEdges hGP (by omega) (by omega)) ms_X0_hasEdges mv_X0_hasEdges lk_RX7_140 dX7_process_44 hGP.1 rfl rfl rfl (by simp [Value.category]) ⟨⟨(Nat.le_of_ble_eq_true rfl), (Nat.le_of_ble_eq_true rfl)⟩, by omega, by omega⟩ (fun v9 X9 hp9 hE9 => ?_)))
          obtain ⟨rfl, he9⟩ := hp9; obtain rfl := he9.symm
          refine j_b_ne hF 57 dX7_process_47 (by decide) (fun c47 => ?_) (fun c47 => ?_)
          ·
            have hpt10 := pw_top b1
            have hge := hGE.2.2 e c22.1 (by omega)
            have hr6 := hGV.1.ed e c22.1 (by omega)
            refine j_aload hF dX7_process_57 rfl (j_get hF hGP.1 fl_RX7_143 dX7_process_59 rfl (j_iload_n hF dX7_process_62 rfl (j_iald hF hGP.2.2.2.1 dX7_process_63 (by omega) (fun ra10 rb10 => ?_))))
            rw [hge.2.1]
            refine j_istore hF dX7_process_64 (Nat.le_of_ble_eq_true rfl) rfl (j_aload_n hF dX7_process_66 rfl (j_get hF hpt fl_RX7_27 dX7_process_67 rfl (j_get hF h1 fl_RX7_120 dX7_process_70 rfl (j_iload_n hF dX7_process_73 rfl (j_iload_n hF dX7_process_74 rfl ?_)))))
            refine j_callV hF (c_X1_sizeOf hMP c13 (by omega)) ms_X1_sizeOf mv_X1_sizeOf lk_RX7_146 dX7_process_75 hMP.1 rfl rfl rfl (by simp [Value.category]) ⟨⟨(Nat.le_of_ble_eq_true rfl), (Nat.le_of_ble_eq_true rfl)⟩, by omega, by omega⟩ (fun v11 X11 hp11 hE11 => ?_)
            obtain ⟨rfl, he11⟩ := hp11; obtain rfl := he11.symm
            rw [x1 _ (by omega) (by omega)]
            have hm0_ := hm (10 * w + e) (by omega) (by omega)
            refine j_if_eq hF 92 dX7_process_78 (by decide) (by omega) (fun c78 => ?_) (fun c78 => ?_)
            ·
              refine j_aload_n hF dX7_process_92 rfl (j_bipush hF dX7_process_93 (by decide) (j_callV hF (c_X7_fail hP hE (by omega)) ms_X7_fail mv_X7_fail lk_RX7_35 dX7_process_95 hpt rfl rfl rfl (by simp [Value.category]) ⟨⟨(Nat.le_of_ble_eq_true rfl), (Nat.le_of_ble_eq_true rfl)⟩, by omega, by omega⟩ (fun v12 X12 hp12 hE12 => ?_)))
              obtain ⟨rfl, hP2, hF2⟩ := hp12
              refine j_iretv hF hR dX7_process_98 (by omega) (by omega) ?_
              refine PV ?_ (hP2.mono (by omega)) hF2 (by omega) (by omega) (by omega)
              unfold sp_process
              first | exact (pif_t ⟨⟨⟨⟨c13, c22⟩, c30⟩, c38⟩, c47⟩).trans (pif_t (Or.inl c78)) | exact (pif_t ⟨⟨⟨⟨c13, c22⟩, c30⟩, c38⟩, c47⟩).trans (pif_t (Or.inr c89))
            ·
              refine j_aload hF dX7_process_81 rfl (j_iload_n hF dX7_process_83 rfl (j_iload hF dX7_process_84 rfl (j_callV hF (c_X0_startAllAt hGP (by omega) (by omega) (by omega)) ms_X0_startAllAt mv_X0_startAllAt lk_RX7_149 dX7_process_86 hGP.1 rfl rfl rfl (by simp [Value.category]) ⟨⟨(Nat.le_of_ble_eq_true rfl), (Nat.le_of_ble_eq_true rfl)⟩, by omega, by omega⟩ (fun v13 X13 hp13 hE13 => ?_))))
              obtain ⟨rfl, he13⟩ := hp13; obtain rfl := he13.symm
              rw [bz_iff (sa_iff hGE)]
              refine j_b_ne hF 99 dX7_process_89 (by decide) (fun c89 => ?_) (fun c89 => ?_)
              ·
                refine j_aload_n hF dX7_process_99 rfl (j_get hF hpt fl_RX7_27 dX7_process_100 rfl (j_get hF h1 fl_RX7_120 dX7_process_103 rfl (j_iload hF dX7_process_106 rfl (j_iload_n hF dX7_process_108 rfl (j_callV hF (c_X1_isAnyFull hMP c30 (by omega) (fun x x1_ x2_ => by rw [x1 _ (by omega) (by omega)]; exact hm _ (by omega) (by omega))) ms_X1_isAnyFull mv_X1_isAnyFull lk_RX7_152 dX7_process_109 hMP.1 rfl rfl rfl (by simp [Value.category]) ⟨⟨(Nat.le_of_ble_eq_true rfl), (Nat.le_of_ble_eq_true rfl)⟩, by omega, by omega⟩ (fun v14 X14 hp14 hE14 => ?_))))))
                obtain ⟨rfl, he14⟩ := hp14; obtain rfl := he14.symm
                rw [bz_iff (af_iff x1 b1 c47 c30)]
                refine j_b_ne hF 135 dX7_process_112 (by decide) (fun c112 => ?_) (fun c112 => ?_)
                ·
                  refine j_aload_n hF dX7_process_135 rfl (j_bipush hF dX7_process_136 (by decide) (j_callV hF (c_X7_fail hP hE (by omega)) ms_X7_fail mv_X7_fail lk_RX7_35 dX7_process_138 hpt rfl rfl rfl (by simp [Value.category]) ⟨⟨(Nat.le_of_ble_eq_true rfl), (Nat.le_of_ble_eq_true rfl)⟩, by omega, by omega⟩ (fun v15 X15 hp15 hE15 => ?_)))
                  obtain ⟨rfl, hP2, hF2⟩ := hp15
                  refine j_iretv hF hR dX7_process_141 (by omega) (by omega) ?_
                  refine PV ?_ (hP2.mono (by omega)) hF2 (by omega) (by omega) (by omega)
                  have hnp : ¬ (r (47 + (10 * w + e)) = 0 ∨ ¬ BA (fun x => hb o x → r (17 + x) = r (27 + e)) (r 1)) := fun h => h.elim (fun h => absurd h (by omega)) (fun h => h c89)
                  unfold sp_process
                  refine (pif_t ⟨⟨⟨⟨c13, c22⟩, c30⟩, c38⟩, c47⟩).trans ((pif_f hnp).trans ?_)
                  first | exact pif_t (Or.inl c112) | exact pif_t (Or.inr ⟨c118, c132⟩)
                ·
                  refine j_iload hF dX7_process_115 rfl (j_iconst hF dX7_process_117 (j_icmp_ne hF 142 dX7_process_118 (by decide) (by omega) (fun c118 => ?_) (fun c118 => ?_)))
                  ·
                    have hnp : ¬ (r (47 + (10 * w + e)) = 0 ∨ ¬ BA (fun x => hb o x → r (17 + x) = r (27 + e)) (r 1)) := fun h => h.elim (fun h => absurd h (by omega)) (fun h => h c89)
                    have hnf : ¬ (BE (fun x => hb o x ∧ r (47 + (10 * tg + x)) = 12) (r 1) ∨ (u = 1 ∧ r (307 + w) = 12)) := fun h => h.elim c112 (fun h => by first | exact c132 h.2 | exact c118 h.1)
                    have hnf0 : ∀ x, 0 ≤ x → x < r 1 → hb o x → ¬ r (47 + (10 * tg + x)) = 12 := fun x x1 x2 x3 x4 => c112 ⟨x, x1, x2, x3, x4⟩
                    refine j_aload_n hF dX7_process_142 rfl (j_callVv hF (c_X7_beginEvent hO ⟨hea, hWR, hS, hV, hQ⟩ hsv hGV.1 hA hI (by omega) h02 hC) ms_X7_beginEvent mv_X7_beginEvent lk_RX7_129 dX7_process_143 hpt rfl rfl rfl (by simp [Value.category]) ⟨⟨(Nat.le_of_ble_eq_true rfl), (Nat.le_of_ble_eq_true rfl)⟩, by omega, by omega⟩ (fun v16 X16 k16 n16 hp16 hE16 => ?_))
                    obtain ⟨rfl, kr2, hO, ⟨hea, hWR, hS, hV, hQ⟩, hFF, hb1, hb2, hb3⟩ := hp16
                    have hkl2 := hO.le
                    have hpt := hO.pt.1
                    have h1 := hS.o1
                    obtain ⟨av2, aq2, ao2, af2, -, ⟨ga2, gb2, gc2, gd2, nc2, ec2, jd2, js2, je2, jk2, hGP, hGE2⟩, ⟨mz2, mt2, yz2, yt2, hMP, x1, x2⟩, -⟩ := id hS
                    have hGE := hGE2.row2 (r' := r) hGV.1.b (fun i _ _ h5 _ => (fu_n (by omega)).symm)
                    obtain ⟨g1, g1'⟩ := id hGE.1
                    subst g1
                    subst g1'
                    have hL : 0 ≤ (10 * w + e) ∧ (10 * w + e) < 20 := by omega
                    have hm0 := hm (10 * w + e) (by omega) (by omega)
                    have ez : yz2 (10 * w + e) = r (47 + (10 * w + e)) := by rw [x1 _ hL.1 hL.2, fu_n (by omega)]
                    have hbz : (fu r 2 1) (47 + (10 * w + e)) = r (47 + (10 * w + e)) := fu_n (by omega)
                    refine j_aload_n hF dX7_process_146 rfl (j_get hF hpt fl_RX7_27 dX7_process_147 rfl (j_get hF h1 fl_RX7_120 dX7_process_150 rfl (j_iload_n hF dX7_process_153 rfl (j_iload_n hF dX7_process_154 rfl (j_callV hF (c_X1_take hMP c13 (by omega) (by rw [ez]; omega)) ms_X1_take mv_X1_take lk_RX7_163 dX7_process_155 hMP.1 rfl rfl rfl (by simp [Value.category]) ⟨⟨(Nat.le_of_ble_eq_true rfl), (Nat.le_of_ble_eq_true rfl)⟩, by omega, by omega⟩ (fun v17 X17 hp17 hE17 => ?_))))))
                    obtain ⟨rfl, hMn⟩ := hp17
                    have hFt : FB (B + 20) (B + 30) X16 X17 := hMn.2
                    rw [show yt2 (12 * (10 * w + e)) = r (67 + 12 * (10 * w + e)) by rw [x2 _ (by omega) (by omega), fu_n (by omega)]]
                    have hto : ∀ i, i < 47 ∨ 307 ≤ i → (m_take (fu r 2 1) (10 * w + e)) i = (fu r 2 1) i := fun i hi => m_take_n (by rw [hbz]; omega) (by omega) (by omega)
                    have hS := hS.mail hGV.1.b hA.b (MR.take hL (by rw [hbz]; omega) x1 x2 hMn.1) hFt (fun i _ i2 => hto i i2)
                    have hV := (hV.keep hFt (by omega)).row (r' := (m_take (fu r 2 1) (10 * w + e))) (fun i i1 => hto i (by omega))
                    have hQ := (hQ.keep hFt (by omega)).row (r' := (m_take (fu r 2 1) (10 * w + e))) (fun i i1 _ => hto i (by omega))
                    have hO := hO.keep hFt (by omega)
                    have hpt := hO.pt.1
                    have h1 := hS.o1
                    have hea := hFt _ _ _ hea (by omega)
                    have hsg1 : SG (fu r 2 1) (m_take (fu r 2 1) (10 * w + e)) := fun i _ i2 _ _ => hto i (by omega)
                    have hWR := (hWR.keep hFt (by omega)).row hGV.1.b hsg1
                    have hGP := hGP.keep hFt (by omega)
                    have hFF := hFF.trans (hFt.mono (by omega) (by omega))
                    have hG1 := hsg1.gi hGV.1.b
                    have hA1 : AS (m_take (fu r 2 1) (10 * w + e)) := hA.b.row (fun i _ _ => hto i (by omega))
                    have hI1 : RI (m_take (fu r 2 1) (10 * w + e)) N := (RI_b hI).row (fun i _ _ => hto i (by omega))
                    have h21 : (m_take (fu r 2 1) (10 * w + e)) 2 = 1 := by rw [hto 2 (by omega), fu_s]
                    have h11 : (m_take (fu r 2 1) (10 * w + e)) 1 = r 1 := by rw [hto 1 (by omega), fu_n (by omega)]
                    have hbt := hmt (12 * (10 * w + e)) (by omega) (by omega)
                    rw [show (67 : Int) + 12 * (10 * w + e) = 67 + 12 * (10 * w + e) from rfl] at hbt
                    have hvs := hvm w e 0 c13.1 c13.2 c22.1 (by omega) (by omega) (by omega)
                    unfold VS at hvs
                    rw [show 67 + 12 * (10 * w + e) + 0 = 67 + 12 * (10 * w + e) by omega, show (1000 * (6 + e) + r (67 + 12 * (10 * w + e))) / 1000 = 6 + e by omega, show (1000 * (6 + e) + r (67 + 12 * (10 * w + e))) % 1000 = r (67 + 12 * (10 * w + e)) by omega] at hvs
                    refine j_istore hF dX7_process_158 (Nat.le_of_ble_eq_true rfl) rfl (j_aload hF dX7_process_160 rfl (j_iload_n hF dX7_process_162 rfl (j_iload hF dX7_process_163 rfl ?_)))
                    have hge := hGE.2.2 e c22.1 (by omega)
                    have hs6 : 0 ≤ js2 e ∧ js2 e < 6 := by rw [hge.1]; exact hr6.1
                    have hd2 := hGE.rgd hGV.1 (js2 e) hs6.1 hs6.2
                    have hk3 : 0 ≤ jk2 e ∧ jk2 e ≤ 3 := by
                      rw [hge.2.2]
                      unfold m_kind
                      (repeat' split) <;> omega
                    refine j_callV hF (c_X0_timeAfter hGP (by omega) hbt hs6 hd2 hk3) ms_X0_timeAfter mv_X0_timeAfter lk_RX7_90 dX7_process_165 hGP.1 rfl rfl rfl (by simp [Value.category]) ⟨⟨(Nat.le_of_ble_eq_true rfl), (Nat.le_of_ble_eq_true rfl)⟩, by omega, by omega⟩ (fun v18 X18 hp18 hE18 => ?_)
                    obtain ⟨rfl, he18⟩ := hp18; obtain rfl := he18.symm
                    rw [moved_eq hGV ⟨c22.1, by omega⟩ hbt hge.2.2 (by rw [hge.1, hGE.2.1 _ hr6.1.1 hr6.1.2]) (by have z := hvs.2.2; unfold m_depth at z; rw [if_neg (by omega), show 17 + (6 + e) - 6 = 17 + e by omega] at z; exact z)]
                    have hmr := mv_rg2 (r := r) (e := e) hbt
                    obtain ⟨tt, htt⟩ : ∃ tt, tt = m_moved r e (r (67 + 12 * (10 * w + e))) := ⟨_, rfl⟩
                    rw [← htt] at hmr ⊢
                    have hnd := hr6.2.1
                    have hto2 : ∀ i, i < 47 ∨ 307 ≤ i → (m_take r (10 * w + e)) i = r i := fun i hi => m_take_n (by omega) (by omega) (by omega)
                    have hTM : m_moved (m_take r (10 * w + e)) e (r (67 + 12 * (10 * w + e))) = m_moved r e (r (67 + 12 * (10 * w + e))) := SG.moved (fun i _ i2 _ _ => hto2 i (by omega)) hGV.1 c22.1 (by omega)
                    have hKK : KK (fun i => ¬ i = 2 ∧ ¬ i = 4) := fun i hi => by omega
                    have hKK2 : KK (fun i => ¬ i = 2) := fun i hi => by omega
                    have hak0 : AK (fun i => ¬ i = 2) (m_take (fu r 2 1) (10 * w + e)) (m_take r (10 * w + e)) := AK.tk hKK2 (AG.b r) hL (by rw [hbz]; omega)
                    have J240 : ∀ (Y : Hp) (kn1 kc ks : Nat) (R : Int → Int), OT Y pt ea sa y st B (sv_n sv) (sv_p r pf sv) kr2 → Y ea = some (1, ia 0 4 er) → WR Y 100 y mk gn R → ST Y B st kn1 R → FB 0 5000 X Y → GI R → AS R → R 2 = 1 → kn ≤ kn1 → kc ≤ (kr2 - kr) + (kn1 - kn) → ks ≤ 6 * ((kr2 - kr) + (kn1 - kn)) → RI R (N + 11) → AG R (if m_moved (m_take r (10 * w + e)) e (r (67 + 12 * (10 * w + e))) = -1 then (m_take r (10 * w + e)) else m_proc1 (m_take r (10 * w + e)) w o tg u (r (27 + e)) (m_moved (m_take r (10 * w + e)) e (r (67 + 12 * (10 * w + e))))) → Jd φ Y kc ks 240 [some (.ref pt), some (vi w), some (vi e), some (vi o), some (vi tg), some (vi u), some (.ref g), some (vi (r (27 + e))), some (vi (r (67 + 12 * (10 * w + e)))), some (vi tt)] [] := by
                      intro Y kn1 kc ks R hO hea hWR hSTr hFY hGr hAr h2r hj1 hj2 hj3 hIr hag
                      have hpt := hO.pt.1
                      obtain ⟨olr, h1⟩ := hSTr.obj
                      have hjl := hSTr.le
                      refine j_aload_n hF dX7_process_240 rfl (j_get hF hpt fl_RX7_27 dX7_process_241 rfl (j_iload_n hF dX7_process_244 rfl (j_bipush hF dX7_process_245 (by decide) (j_iload_n hF dX7_process_247 rfl (j_iadd hF dX7_process_248 ?_)))))
                      refine j_iload hF dX7_process_249 rfl (j_callS hF (c_X7_stampOf) ms_X7_stampOf mt_X7_stampOf lk_RX7_94 dX7_process_251 rfl rfl rfl (by simp [Value.category]) ⟨⟨(Nat.le_of_ble_eq_true rfl), (Nat.le_of_ble_eq_true rfl)⟩, by omega, by omega⟩ (fun v1 X1 hp1 hE1 => ?_))
                      obtain ⟨rfl, he1⟩ := hp1; obtain rfl := he1.symm
                      refine j_iconst hF dX7_process_254 (j_callVv hF (c_X2_update (p := 6 + e) (t := r (67 + 12 * (10 * w + e))) (c := -1) (N := N + 11) hSTr hGr hAr hIr (by omega) h2r c13 (by omega) hbt (by omega)) ms_X2_update mv_X2_update lk_RX7_136 dX7_process_255 h1 rfl rfl rfl (by simp [Value.category]) ⟨⟨(Nat.le_of_ble_eq_true rfl), (Nat.le_of_ble_eq_true rfl)⟩, by omega, by omega⟩ (fun v2 X2 k2 n2 hp2 hE2 => ?_))
                      obtain ⟨rfl, kn5, hST5, hFq5, hq15, hq25, hq35⟩ := hp2
                      have hq45 := hST5.le
                      refine j_iload hF dX7_process_258 rfl (j_iretv hF hR dX7_process_260 (by omega) (by omega) ?_)
                      have hsg : SG R (m_upd R w (6 + e) (r (67 + 12 * (10 * w + e))) (-1)) := SG.upd hIr c13 (by omega) hbt
                      have hP2 := PP.mk (hO.keep hFq5 (by omega)) (hFq5 _ _ _ hea (by omega)) ((hWR.keep hFq5 (by omega)).row hGr hsg) (c := ct + 1) (by omega) hST5
                      refine PV ?_ hP2 (hFY.trans (hFq5.mono (by omega) (by omega))) (by omega) (by omega) (by omega)
                      unfold sp_process
                      refine (pif_t ⟨⟨⟨⟨c13, c22⟩, c30⟩, c38⟩, c47⟩).trans ((pif_f hnp).trans ((pif_f hnf).trans ?_))
                      unfold sp_new m_proc
                      dsimp only
                      rw [hag.upd c13 (by omega) (by omega) (hIr.q (w := 1 - w) (by omega)).1, hTM, htt]
                    have J229 : ¬ tt = -1 → ∀ (Y : Hp) (kn1 kc ks : Nat) (R : Int → Int), OT Y pt ea sa y st B (sv_n sv) (sv_p r pf sv) kr2 → Y ea = some (1, ia 0 4 er) → WR Y 100 y mk gn R → ST Y B st kn1 R → FB 0 5000 X Y → GI R → AS R → R 2 = 1 → kn ≤ kn1 → kc ≤ (kr2 - kr) + (kn1 - kn) → ks ≤ 6 * ((kr2 - kr) + (kn1 - kn)) → RI R (N + 11) → AK (fun i => ¬ i = 2 ∧ ¬ i = 4) R (m_proc1 (m_take r (10 * w + e)) w o tg u (r (27 + e)) tt) → R 4 = r 4 → (m_vio R (r (27 + e)) tt ↔ m_vio r (r (27 + e)) tt) → (m_proc1 (m_take r (10 * w + e)) w o tg u (r (27 + e)) tt) 4 = r 4 + bz (m_vio r (r (27 + e)) tt) → Jd φ Y kc ks 229 [some (.ref pt), some (vi w), some (vi e), some (vi o), some (vi tg), some (vi u), some (.ref g), some (vi (r (27 + e))), some (vi (r (67 + 12 * (10 * w + e)))), some (vi tt)] [] := by
                      intro htn Y kn1 kc ks R hO hea hWR hSTr hFY hGr hAr h2r hj1 hj2 hj3 hIr hak h4r hvr hm4
                      have hpt := hO.pt.1
                      obtain ⟨olr, h1⟩ := hSTr.obj
                      have hjl := hSTr.le
                      have htr : 0 ≤ tt ∧ tt ≤ 999 := by omega
                      refine j_aload_n hF dX7_process_229 rfl (j_get hF hpt fl_RX7_27 dX7_process_230 rfl (j_iload hF dX7_process_233 rfl (j_iload hF dX7_process_235 rfl (j_callV hF (c_X2_recordArrival hSTr hGr hAr hnd htr) ms_X2_recordArrival mv_X2_recordArrival lk_RX7_173 dX7_process_237 h1 rfl rfl rfl (by simp [Value.category]) ⟨⟨(Nat.le_of_ble_eq_true rfl), (Nat.le_of_ble_eq_true rfl)⟩, by omega, by omega⟩ (fun v1 X1 hp1 hE1 => ?_)))))
                      obtain ⟨rfl, hST4, hFa⟩ := hp1
                      have h4x : ∀ i, ¬ i = 4 → fu R 4 (R 4 + bz (m_vio R (r (27 + e)) tt)) i = R i := fun i hi => fu_n hi
                      refine J240 _ kn1 _ _ _ (hO.keep hFa (by omega)) (hFa _ _ _ hea (by omega)) ((hWR.keep hFa (by omega)).row hGr (fun i _ _ h5 _ => h4x i (by omega))) hST4 (hFY.trans (hFa.mono (by omega) (by omega))) (hGr.eq (fun i _ _ _ _ h5 _ => h4x i h5)) (hAr.row (fun i _ _ => h4x i (by omega))) (by rw [h4x 2 (by omega)]; exact h2r) hj1 hj2 hj3 (hIr.row (fun i _ _ => h4x i (by omega))) (fun i hi => ?_)
                      rw [if_neg (by rw [hTM, ← htt]; exact htn), hTM, ← htt]
                      by_cases q4 : i = 4
                      · rw [q4, fu_s, hm4, h4r, bz_iff hvr]
                      · rw [h4x i q4]; exact hak i ⟨hi, q4⟩
                    refine j_istore hF dX7_process_168 (Nat.le_of_ble_eq_true rfl) rfl (j_iload hF dX7_process_170 rfl (j_iconst hF dX7_process_172 (j_icmp_eq hF 240 dX7_process_173 (by decide) (by omega) (fun c173 => ?_) (fun c173 => ?_))))
                    ·
                      exact J240 _ kn _ _ _ hO hea hWR ⟨g, ml, ws, va, qa, oe, dc, v_, q_, n_, m_, z_, f_, hS, hV, hQ, hk_⟩ hFF hG1 hA1 h21 (Nat.le_refl _) (by omega) (by omega) (hI1.mono (by omega)) (by rw [if_pos (by rw [hTM, ← htt]; exact c173)]; exact hak0)
                    ·
                      refine j_aload_n hF dX7_process_176 rfl (j_get hF hpt fl_RX7_27 dX7_process_177 rfl (j_iload_n hF dX7_process_180 rfl (j_iload_n hF dX7_process_181 rfl (j_iload hF dX7_process_182 rfl (j_iload hF dX7_process_184 rfl ?_)))))
                      have hsz : ∀ l, 0 ≤ l → l < 20 → (m_take (fu r 2 1) (10 * w + e)) (47 + l) ≤ r (47 + l) := by
                        intro l l1 l2
                        by_cases ql : l = (10 * w + e)
                        · rw [ql, m_take_c hL, hbz]; omega
                        · rw [m_take_n (by rw [hbz]; omega) (by omega) (by omega), fu_n (by omega)]; exact Int.le_refl _
                      have hM1 : RM2 (m_take (fu r 2 1) (10 * w + e)) := RM2.take (hm.fu4 (by omega)) hL (by rw [hbz]; omega)
                      refine j_callVv hF (c_X2_putMessages (N := N) (r := (m_take (fu r 2 1) (10 * w + e))) ⟨g, ml, ws, va, qa, oe, dc, v_, q_, n_, m_, z_, f_, hS, hV, hQ, rfl⟩ hG1 hA1 hI1 hM1 (by omega) h21 c13 (by omega) c30 (by omega) (by rw [h11]; exact (fun x x1 x2 x3 => by have z1 := hnf0 x x1 (by omega) x3; have z2 := hm (10 * tg + x) (by omega) (by omega); have z3 : (m_take (fu r 2 1) (10 * w + e)) (47 + (10 * tg + x)) ≤ r (47 + (10 * tg + x)) := hsz (10 * tg + x) (by omega) (by omega); omega))) ms_X2_putMessages mv_X2_putMessages lk_RX7_166 dX7_process_186 h1 rfl rfl rfl (by simp [Value.category]) ⟨⟨(Nat.le_of_ble_eq_true rfl), (Nat.le_of_ble_eq_true rfl)⟩, by omega, by omega⟩ (fun v19 X19 k19 n19 hp19 hE19 => ?_)
                      obtain ⟨rfl, kn3, hST3, hFq3, hq13, hq23, hq33⟩ := hp19
                      have hq43 := hST3.le
                      have hO := hO.keep hFq3 (by omega)
                      have hpt := hO.pt.1
                      obtain ⟨ol3, h1⟩ := hST3.obj
                      have hea := hFq3 _ _ _ hea (by omega)
                      have hFF := hFF.trans (hFq3.mono (by omega) (by omega))
                      have htr : 0 ≤ tt ∧ tt ≤ 999 := by omega
                      obtain ⟨i1, i2, i3, i4⟩ := m_pa_inv (w := w) (o := o) (tg := tg) (t := tt) (E := r 1) hI1 hM1 (by omega) c13 c30 htr b1.2 (fun x x1 x2 x3 => by have z1 := hnf0 x x1 (by omega) x3; have z2 := hm (10 * tg + x) (by omega) (by omega); have z3 : (m_take (fu r 2 1) (10 * w + e)) (47 + (10 * tg + x)) ≤ r (47 + (10 * tg + x)) := hsz (10 * tg + x) (by omega) (by omega); omega) ((m_take (fu r 2 1) (10 * w + e)) 1).toNat (by omega)
                      have hsg3 : SG (m_take (fu r 2 1) (10 * w + e)) (m_pa w o tg tt ((m_take (fu r 2 1) (10 * w + e)) 1).toNat (m_take (fu r 2 1) (10 * w + e))) := fun i _ i2_ i3_ _ => i2 i (by omega) (by omega)
                      have hWR := (hWR.keep hFq3 (by omega)).row hG1 hsg3
                      have hG3 := hsg3.gi hG1
                      have hA3 : AS (m_pa w o tg tt ((m_take (fu r 2 1) (10 * w + e)) 1).toNat (m_take (fu r 2 1) (10 * w + e))) := hA1.row (fun i _ _ => i2 i (by omega) (by omega))
                      have hI3 : RI (m_pa w o tg tt ((m_take (fu r 2 1) (10 * w + e)) 1).toNat (m_take (fu r 2 1) (10 * w + e))) (N + 10) := i1.mono (by omega)
                      have h23 := m_pa_2 (w := w) (o := o) (tg := tg) (t := tt) h21 ((m_take (fu r 2 1) (10 * w + e)) 1).toNat
                      have hTsz : ∀ l, 0 ≤ l → l < 20 → (m_take r (10 * w + e)) (47 + l) ≤ r (47 + l) := fun l l1 l2 => by rw [← hak0 _ (by omega)]; exact hsz l l1 l2
                      have hFTo : ∀ i, ¬ i = 4 → (fu (m_take r (10 * w + e)) 4 ((m_take r (10 * w + e)) 4 + bz (m_vio (m_take r (10 * w + e)) (r (27 + e)) tt))) i = (m_take r (10 * w + e)) i := fun i hi => fu_n hi
                      have hFT1 : (fu (m_take r (10 * w + e)) 4 ((m_take r (10 * w + e)) 4 + bz (m_vio (m_take r (10 * w + e)) (r (27 + e)) tt))) 1 = r 1 := by rw [hFTo 1 (by omega), hto2 1 (by omega)]
                      have hIT : RI (fu (m_take r (10 * w + e)) 4 ((m_take r (10 * w + e)) 4 + bz (m_vio (m_take r (10 * w + e)) (r (27 + e)) tt))) N := hI.row (fun i _ _ => by rw [hFTo i (by omega), hto2 i (by omega)])
                      have hMT : RM2 (fu (m_take r (10 * w + e)) 4 ((m_take r (10 * w + e)) 4 + bz (m_vio (m_take r (10 * w + e)) (r (27 + e)) tt))) := (RM2.take hm hL (by omega)).fu4 (by omega)
                      obtain ⟨j1, j2, j3, j4⟩ := m_pa_inv (w := w) (o := o) (tg := tg) (t := tt) (E := r 1) hIT hMT (by omega) c13 c30 htr b1.2 (fun x x1 x2 x3 => by rw [hFTo _ (by omega)]; have z1 := hnf0 x x1 x2 x3; have z2 := hm (10 * tg + x) (by omega) (by omega); have z3 := hTsz (10 * tg + x) (by omega) (by omega); omega) ((fu (m_take r (10 * w + e)) 4 ((m_take r (10 * w + e)) 4 + bz (m_vio (m_take r (10 * w + e)) (r (27 + e)) tt))) 1).toNat (by omega)
                      have hak1 : AK (fun i => ¬ i = 2 ∧ ¬ i = 4) (m_take (fu r 2 1) (10 * w + e)) (fu (m_take r (10 * w + e)) 4 ((m_take r (10 * w + e)) 4 + bz (m_vio (m_take r (10 * w + e)) (r (27 + e)) tt))) := fun i hi => by rw [hFTo i hi.2]; exact hak0 i hi.1
                      have hak2 : AK (fun i => ¬ i = 2 ∧ ¬ i = 4) (m_pa w o tg tt ((m_take (fu r 2 1) (10 * w + e)) 1).toNat (m_take (fu r 2 1) (10 * w + e))) (m_pa w o tg tt ((fu (m_take r (10 * w + e)) 4 ((m_take r (10 * w + e)) 4 + bz (m_vio (m_take r (10 * w + e)) (r (27 + e)) tt))) 1).toNat (fu (m_take r (10 * w + e)) 4 ((m_take r (10 * w + e)) 4 + bz (m_vio (m_take r (10 * w + e)) (r (27 + e)) tt)))) := by
                        rw [h11, hFT1]
                        exact AK.pa hKK hak1 c13 c30 htr.1 _ (by omega)
                      have h4T : (fu (m_take r (10 * w + e)) 4 ((m_take r (10 * w + e)) 4 + bz (m_vio (m_take r (10 * w + e)) (r (27 + e)) tt))) 4 = r 4 + bz (m_vio r (r (27 + e)) tt) := by rw [fu_s, hto2 4 (by omega), bz_iff (mvio_eq hnd (fun i _ _ => hto2 i (by omega)))]
                      have h42 : (m_pa w o tg tt ((m_take (fu r 2 1) (10 * w + e)) 1).toNat (m_take (fu r 2 1) (10 * w + e))) 4 = r 4 := by rw [i2 4 (by omega) (by omega), hto 4 (by omega), fu_n (by omega)]
                      have hv2 : ∀ i, 359 ≤ i → i < 6359 → (m_pa w o tg tt ((m_take (fu r 2 1) (10 * w + e)) 1).toNat (m_take (fu r 2 1) (10 * w + e))) i = r i := fun i _ _ => by rw [i2 i (by omega) (by omega), hto i (by omega), fu_n (by omega)]
                      refine j_iload hF dX7_process_189 rfl (j_iconst hF dX7_process_191 (j_icmp_ne hF 229 dX7_process_192 (by decide) (by omega) (fun c192 => ?_) (fun c192 => ?_)))
                      ·
                        have hm1e : (m_proc1 (m_take r (10 * w + e)) w o tg u (r (27 + e)) tt) = m_pa w o tg tt ((fu (m_take r (10 * w + e)) 4 ((m_take r (10 * w + e)) 4 + bz (m_vio (m_take r (10 * w + e)) (r (27 + e)) tt))) 1).toNat (fu (m_take r (10 * w + e)) 4 ((m_take r (10 * w + e)) 4 + bz (m_vio (m_take r (10 * w + e)) (r (27 + e)) tt))) := by unfold m_proc1; rw [if_neg c192]
                        exact J229 c173 _ kn3 _ _ _ hO hea hWR hST3 hFF hG3 hA3 h23 (by omega) (by omega) (by omega) (hI3.mono (by omega)) (by rw [hm1e]; exact hak2) h42 (mvio_eq hnd hv2) (by rw [hm1e, j2 4 (by omega) (by omega)]; exact h4T)
                      ·
                        obtain rfl : u = 1 := c192
                        obtain ⟨g3, ml3, ws3, va3, qa3, oe3, dc3, v3_, q3_, n3_, m3_, z3_, f3_, hS3, hV3, hQ3, hk3_⟩ := id hST3
                        obtain ⟨-, -, -, -, h1s, -, -, ⟨wz3, wt3, uz3, ut3, hWP3, x33⟩, -⟩ := id hS3
                        have hw3 : (m_pa w o tg tt ((m_take (fu r 2 1) (10 * w + e)) 1).toNat (m_take (fu r 2 1) (10 * w + e))) (307 + w) = r (307 + w) := by rw [i2 _ (by omega) (by omega), hto _ (by omega), fu_n (by omega)]
                        have hAw := hA w c13.1 (by omega)
                        have hw12 : 0 ≤ (m_pa w o tg tt ((m_take (fu r 2 1) (10 * w + e)) 1).toNat (m_take (fu r 2 1) (10 * w + e))) (307 + w) ∧ (m_pa w o tg tt ((m_take (fu r 2 1) (10 * w + e)) 1).toNat (m_take (fu r 2 1) (10 * w + e))) (307 + w) < 12 := by rw [hw3]; exact ⟨hAw.1, by have : ¬ r (307 + w) = 12 := fun h => hnf (Or.inr ⟨rfl, h⟩); omega⟩
                        refine j_aload_n hF dX7_process_195 rfl (j_get hF hpt fl_RX7_27 dX7_process_196 rfl (j_get hF h1s fl_RX7_155 dX7_process_199 rfl (j_iload_n hF dX7_process_202 rfl (j_iload hF dX7_process_203 rfl (j_iload hF dX7_process_205 rfl ?_)))))
                        refine j_callS hF (c_X7_stampOf) ms_X7_stampOf mt_X7_stampOf lk_RX7_94 dX7_process_207 rfl rfl rfl (by simp [Value.category]) ⟨⟨(Nat.le_of_ble_eq_true rfl), (Nat.le_of_ble_eq_true rfl)⟩, by omega, by omega⟩ (fun v20 X20 hp20 hE20 => ?_)
                        obtain ⟨rfl, he20⟩ := hp20; obtain rfl := he20.symm
                        refine j_callV hF (c_X6_put (x := 1000 * r (27 + e) + tt) hWP3 c13 (by rw [(x33 w c13.1 c13.2).1]; exact hw12) (by omega)) ms_X6_put mv_X6_put lk_RX7_169 dX7_process_210 hWP3.1 rfl rfl rfl (by simp [Value.category]) ⟨⟨(Nat.le_of_ble_eq_true rfl), (Nat.le_of_ble_eq_true rfl)⟩, by omega, by omega⟩ (fun v21 X21 hp21 hE21 => ?_)
                        obtain ⟨rfl, hWn⟩ := hp21
                        have hFw : FB (B + 30) (B + 40) _ X21 := hWn.2
                        have hHn : HR X21 (B + 30) ws3 (m_rq1 (m_pa w o tg tt ((m_take (fu r 2 1) (10 * w + e)) 1).toNat (m_take (fu r 2 1) (10 * w + e))) w (r (27 + e)) tt) := by
                          refine ⟨_, _, _, _, hWn.1, fun z z1 z2 => ⟨?_, ?_⟩⟩
                          · rw [rq_z c13 hw12 ⟨z1, z2⟩]
                            by_cases qz : z = w
                            · rw [if_pos qz, qz, fu_s, (x33 w c13.1 c13.2).1]
                            · rw [if_neg qz, fu_n qz]; exact (x33 z z1 z2).1
                          · rw [(x33 w c13.1 c13.2).1]; exact (x33 z z1 z2).2.ask hA3 c13 ⟨z1, z2⟩ hw12
                        have hro : ∀ i, i < 307 ∨ 357 ≤ i → m_rq1 (m_pa w o tg tt ((m_take (fu r 2 1) (10 * w + e)) 1).toNat (m_take (fu r 2 1) (10 * w + e))) w (r (27 + e)) tt i = (m_pa w o tg tt ((m_take (fu r 2 1) (10 * w + e)) 1).toNat (m_take (fu r 2 1) (10 * w + e))) i := fun i hi => rq_o c13 hw12 hi
                        have hS4 := hS3.wish hG3 hHn hFw (fun i _ hi => hro i hi)
                        have hV4 := (hV3.keep hFw (by omega)).row (r' := m_rq1 (m_pa w o tg tt ((m_take (fu r 2 1) (10 * w + e)) 1).toNat (m_take (fu r 2 1) (10 * w + e))) w (r (27 + e)) tt) (fun i _ => hro i (by omega))
                        have hQ4 := (hQ3.keep hFw (by omega)).row (r' := m_rq1 (m_pa w o tg tt ((m_take (fu r 2 1) (10 * w + e)) 1).toNat (m_take (fu r 2 1) (10 * w + e))) w (r (27 + e)) tt) (fun i _ _ => hro i (by omega))
                        have hO := hO.keep hFw (by omega)
                        have hpt := hO.pt.1
                        have h1s := hS4.o1
                        have hea := hFw _ _ _ hea (by omega)
                        have hFF := hFF.trans (hFw.mono (by omega) (by omega))
                        have hsg4 : SG (m_pa w o tg tt ((m_take (fu r 2 1) (10 * w + e)) 1).toNat (m_take (fu r 2 1) (10 * w + e))) (m_rq1 (m_pa w o tg tt ((m_take (fu r 2 1) (10 * w + e)) 1).toNat (m_take (fu r 2 1) (10 * w + e))) w (r (27 + e)) tt) := fun i _ _ _ _ => hro i (by omega)
                        have hWR := (hWR.keep hFw (by omega)).row hG3 hsg4
                        have hG4 := hsg4.gi hG3
                        have hA4 : AS (m_rq1 (m_pa w o tg tt ((m_take (fu r 2 1) (10 * w + e)) 1).toNat (m_take (fu r 2 1) (10 * w + e))) w (r (27 + e)) tt) := by
                          intro z z1 z2
                          rw [rq_z c13 hw12 ⟨z1, by omega⟩]
                          have z3 := hA3 z z1 z2
                          split
                          · omega
                          · exact z3
                        have hI4 : RI (m_rq1 (m_pa w o tg tt ((m_take (fu r 2 1) (10 * w + e)) 1).toNat (m_take (fu r 2 1) (10 * w + e))) w (r (27 + e)) tt) (N + 10) := hI3.row (fun i _ _ => hro i (by omega))
                        have h24 : m_rq1 (m_pa w o tg tt ((m_take (fu r 2 1) (10 * w + e)) 1).toNat (m_take (fu r 2 1) (10 * w + e))) w (r (27 + e)) tt 2 = 1 := by rw [hro 2 (by omega)]; exact h23
                        refine j_aload_n hF dX7_process_213 rfl (j_get hF hpt fl_RX7_27 dX7_process_214 rfl (j_iload_n hF dX7_process_217 rfl (j_iload hF dX7_process_218 rfl (j_iload hF dX7_process_220 rfl (j_callS hF (c_X7_stampOf) ms_X7_stampOf mt_X7_stampOf lk_RX7_94 dX7_process_222 rfl rfl rfl (by simp [Value.category]) ⟨⟨(Nat.le_of_ble_eq_true rfl), (Nat.le_of_ble_eq_true rfl)⟩, by omega, by omega⟩ (fun v22 X22 hp22 hE22 => ?_))))))
                        obtain ⟨rfl, he22⟩ := hp22; obtain rfl := he22.symm
                        refine j_iconst hF dX7_process_225 (j_callVv hF (c_X2_update (p := r (27 + e)) (t := tt) (c := 1) (N := N + 10) (r := m_rq1 (m_pa w o tg tt ((m_take (fu r 2 1) (10 * w + e)) 1).toNat (m_take (fu r 2 1) (10 * w + e))) w (r (27 + e)) tt) ⟨g3, ml3, ws3, va3, qa3, oe3, dc3, v3_, q3_, n3_, m3_, z3_, f3_, hS4, hV4, hQ4, hk3_⟩ hG4 hA4 hI4 (by omega) h24 c13 (by omega) htr (by omega)) ms_X2_update mv_X2_update lk_RX7_136 dX7_process_226 h1s rfl rfl rfl (by simp [Value.category]) ⟨⟨(Nat.le_of_ble_eq_true rfl), (Nat.le_of_ble_eq_true rfl)⟩, by omega, by omega⟩ (fun v23 X23 k23 n23 hp23 hE23 => ?_))
                        obtain ⟨rfl, kn4, hST4, hFq4, hq14, hq24, hq34⟩ := hp23
                        have hq44 := hST4.le
                        have hO := hO.keep hFq4 (by omega)
                        have hpt := hO.pt.1
                        have hea := hFq4 _ _ _ hea (by omega)
                        have hFF := hFF.trans (hFq4.mono (by omega) (by omega))
                        have hup : ∀ i, ¬ i = 2 → (i < 357 ∨ (358 < i ∧ i < 6359)) → (m_upd (m_rq1 (m_pa w o tg tt ((m_take (fu r 2 1) (10 * w + e)) 1).toNat (m_take (fu r 2 1) (10 * w + e))) w (r (27 + e)) tt) w (r (27 + e)) tt 1) i = m_rq1 (m_pa w o tg tt ((m_take (fu r 2 1) (10 * w + e)) 1).toNat (m_take (fu r 2 1) (10 * w + e))) w (r (27 + e)) tt i := fun i hi h5 => m_upd_lo hI4 c13 (by omega) htr hi h5
                        have hsg5 : SG (m_rq1 (m_pa w o tg tt ((m_take (fu r 2 1) (10 * w + e)) 1).toNat (m_take (fu r 2 1) (10 * w + e))) w (r (27 + e)) tt) (m_upd (m_rq1 (m_pa w o tg tt ((m_take (fu r 2 1) (10 * w + e)) 1).toNat (m_take (fu r 2 1) (10 * w + e))) w (r (27 + e)) tt) w (r (27 + e)) tt 1) := SG.upd hI4 c13 (by omega) htr
                        have hm1e : (m_proc1 (m_take r (10 * w + e)) w o tg 1 (r (27 + e)) tt) = m_upd (m_rq1 (m_pa w o tg tt ((fu (m_take r (10 * w + e)) 4 ((m_take r (10 * w + e)) 4 + bz (m_vio (m_take r (10 * w + e)) (r (27 + e)) tt))) 1).toNat (fu (m_take r (10 * w + e)) 4 ((m_take r (10 * w + e)) 4 + bz (m_vio (m_take r (10 * w + e)) (r (27 + e)) tt)))) w (r (27 + e)) tt) w (r (27 + e)) tt 1 := by unfold m_proc1; rw [if_pos rfl]; rfl
                        have hw3T : m_pa w o tg tt ((fu (m_take r (10 * w + e)) 4 ((m_take r (10 * w + e)) 4 + bz (m_vio (m_take r (10 * w + e)) (r (27 + e)) tt))) 1).toNat (fu (m_take r (10 * w + e)) 4 ((m_take r (10 * w + e)) 4 + bz (m_vio (m_take r (10 * w + e)) (r (27 + e)) tt))) (307 + w) = r (307 + w) := by rw [j2 _ (by omega) (by omega), hFTo _ (by omega), hto2 _ (by omega)]
                        have hI6 : RI (m_rq1 (m_pa w o tg tt ((fu (m_take r (10 * w + e)) 4 ((m_take r (10 * w + e)) 4 + bz (m_vio (m_take r (10 * w + e)) (r (27 + e)) tt))) 1).toNat (fu (m_take r (10 * w + e)) 4 ((m_take r (10 * w + e)) 4 + bz (m_vio (m_take r (10 * w + e)) (r (27 + e)) tt)))) w (r (27 + e)) tt) (N + 10) := (j1.mono (by omega)).row (fun i _ _ => rq_o c13 (by rw [hw3T, ← hw3]; exact hw12) (by omega))
                        exact J229 c173 _ kn4 _ _ _ hO hea ((hWR.keep hFq4 (by omega)).row hG4 hsg5) hST4 hFF (hsg5.gi hG4) (hA4.row (fun i _ _ => hup i (by omega) (by omega))) (by unfold m_upd; exact fu_s) (by omega) (by omega) (by omega) (hI4.up (by omega) c13 (by omega) htr (by omega) |>.mono (by omega)) (by rw [hm1e]; exact AK.upd hKK (AK.rq hKK hak2 c13) c13 (by omega) htr.1) (by rw [hup 4 (by omega) (by omega), hro 4 (by omega)]; exact h42) (mvio_eq hnd (fun i _ _ => by rw [hup i (by omega) (by omega), hro i (by omega)]; exact hv2 i (by omega) (by omega))) (by rw [hm1e, m_upd_lo hI6 c13 (by omega) htr (by omega) (by omega), rq_o c13 (by rw [hw3T, ← hw3]; exact hw12) (by omega), j2 4 (by omega) (by omega)]; exact h4T)
                  ·
                    refine j_aload_n hF dX7_process_121 rfl (j_get hF hpt fl_RX7_27 dX7_process_122 rfl (j_get hF h1 fl_RX7_155 dX7_process_125 rfl (j_iload_n hF dX7_process_128 rfl (j_callV hF (c_X6_isFull hWP c13 (by rw [(x3 w c13.1 c13.2).1]; exact hA w c13.1 (by omega))) ms_X6_isFull mv_X6_isFull lk_RX7_159 dX7_process_129 hWP.1 rfl rfl rfl (by simp [Value.category]) ⟨⟨(Nat.le_of_ble_eq_true rfl), (Nat.le_of_ble_eq_true rfl)⟩, by omega, by omega⟩ (fun v24 X24 hp24 hE24 => ?_)))))
                    obtain ⟨rfl, he24⟩ := hp24; obtain rfl := he24.symm
                    rw [(x3 w c13.1 c13.2).1]
                    refine j_b_eq hF 142 dX7_process_132 (by decide) (fun c132 => ?_) (fun c132 => ?_)
                    ·
                      have hnp : ¬ (r (47 + (10 * w + e)) = 0 ∨ ¬ BA (fun x => hb o x → r (17 + x) = r (27 + e)) (r 1)) := fun h => h.elim (fun h => absurd h (by omega)) (fun h => h c89)
                      have hnf : ¬ (BE (fun x => hb o x ∧ r (47 + (10 * tg + x)) = 12) (r 1) ∨ (u = 1 ∧ r (307 + w) = 12)) := fun h => h.elim c112 (fun h => by first | exact c132 h.2 | exact c118 h.1)
                      have hnf0 : ∀ x, 0 ≤ x → x < r 1 → hb o x → ¬ r (47 + (10 * tg + x)) = 12 := fun x x1 x2 x3 x4 => c112 ⟨x, x1, x2, x3, x4⟩
                      refine j_aload_n hF dX7_process_142 rfl (j_callVv hF (c_X7_beginEvent hO ⟨hea, hWR, hS, hV, hQ⟩ hsv hGV.1 hA hI (by omega) h02 hC) ms_X7_beginEvent mv_X7_beginEvent lk_RX7_129 dX7_process_143 hpt rfl rfl rfl (by simp [Value.category]) ⟨⟨(Nat.le_of_ble_eq_true rfl), (Nat.le_of_ble_eq_true rfl)⟩, by omega, by omega⟩ (fun v25 X25 k25 n25 hp25 hE25 => ?_))
                      obtain ⟨rfl, kr2, hO, ⟨hea, hWR, hS, hV, hQ⟩, hFF, hb1, hb2, hb3⟩ := hp25
                      have hkl2 := hO.le
                      have hpt := hO.pt.1
                      have h1 := hS.o1
                      obtain ⟨av2, aq2, ao2, af2, -, ⟨ga2, gb2, gc2, gd2, nc2, ec2, jd2, js2, je2, jk2, hGP, hGE2⟩, ⟨mz2, mt2, yz2, yt2, hMP, x1, x2⟩, -⟩ := id hS
                      have hGE := hGE2.row2 (r' := r) hGV.1.b (fun i _ _ h5 _ => (fu_n (by omega)).symm)
                      obtain ⟨g1, g1'⟩ := id hGE.1
                      subst g1
                      subst g1'
                      have hL : 0 ≤ (10 * w + e) ∧ (10 * w + e) < 20 := by omega
                      have hm0 := hm (10 * w + e) (by omega) (by omega)
                      have ez : yz2 (10 * w + e) = r (47 + (10 * w + e)) := by rw [x1 _ hL.1 hL.2, fu_n (by omega)]
                      have hbz : (fu r 2 1) (47 + (10 * w + e)) = r (47 + (10 * w + e)) := fu_n (by omega)
                      refine j_aload_n hF dX7_process_146 rfl (j_get hF hpt fl_RX7_27 dX7_process_147 rfl (j_get hF h1 fl_RX7_120 dX7_process_150 rfl (j_iload_n hF dX7_process_153 rfl (j_iload_n hF dX7_process_154 rfl (j_callV hF (c_X1_take hMP c13 (by omega) (by rw [ez]; omega)) ms_X1_take mv_X1_take lk_RX7_163 dX7_process_155 hMP.1 rfl rfl rfl (by simp [Value.category]) ⟨⟨(Nat.le_of_ble_eq_true rfl), (Nat.le_of_ble_eq_true rfl)⟩, by omega, by omega⟩ (fun v26 X26 hp26 hE26 => ?_))))))
                      obtain ⟨rfl, hMn⟩ := hp26
                      have hFt : FB (B + 20) (B + 30) X25 X26 := hMn.2
                      rw [show yt2 (12 * (10 * w + e)) = r (67 + 12 * (10 * w + e)) by rw [x2 _ (by omega) (by omega), fu_n (by omega)]]
                      have hto : ∀ i, i < 47 ∨ 307 ≤ i → (m_take (fu r 2 1) (10 * w + e)) i = (fu r 2 1) i := fun i hi => m_take_n (by rw [hbz]; omega) (by omega) (by omega)
                      have hS := hS.mail hGV.1.b hA.b (MR.take hL (by rw [hbz]; omega) x1 x2 hMn.1) hFt (fun i _ i2 => hto i i2)
                      have hV := (hV.keep hFt (by omega)).row (r' := (m_take (fu r 2 1) (10 * w + e))) (fun i i1 => hto i (by omega))
                      have hQ := (hQ.keep hFt (by omega)).row (r' := (m_take (fu r 2 1) (10 * w + e))) (fun i i1 _ => hto i (by omega))
                      have hO := hO.keep hFt (by omega)
                      have hpt := hO.pt.1
                      have h1 := hS.o1
                      have hea := hFt _ _ _ hea (by omega)
                      have hsg1 : SG (fu r 2 1) (m_take (fu r 2 1) (10 * w + e)) := fun i _ i2 _ _ => hto i (by omega)
                      have hWR := (hWR.keep hFt (by omega)).row hGV.1.b hsg1
                      have hGP := hGP.keep hFt (by omega)
                      have hFF := hFF.trans (hFt.mono (by omega) (by omega))
                      have hG1 := hsg1.gi hGV.1.b
                      have hA1 : AS (m_take (fu r 2 1) (10 * w + e)) := hA.b.row (fun i _ _ => hto i (by omega))
                      have hI1 : RI (m_take (fu r 2 1) (10 * w + e)) N := (RI_b hI).row (fun i _ _ => hto i (by omega))
                      have h21 : (m_take (fu r 2 1) (10 * w + e)) 2 = 1 := by rw [hto 2 (by omega), fu_s]
                      have h11 : (m_take (fu r 2 1) (10 * w + e)) 1 = r 1 := by rw [hto 1 (by omega), fu_n (by omega)]
                      have hbt := hmt (12 * (10 * w + e)) (by omega) (by omega)
                      rw [show (67 : Int) + 12 * (10 * w + e) = 67 + 12 * (10 * w + e) from rfl] at hbt
                      have hvs := hvm w e 0 c13.1 c13.2 c22.1 (by omega) (by omega) (by omega)
                      unfold VS at hvs
                      rw [show 67 + 12 * (10 * w + e) + 0 = 67 + 12 * (10 * w + e) by omega, show (1000 * (6 + e) + r (67 + 12 * (10 * w + e))) / 1000 = 6 + e by omega, show (1000 * (6 + e) + r (67 + 12 * (10 * w + e))) % 1000 = r (67 + 12 * (10 * w + e)) by omega] at hvs
                      refine j_istore hF dX7_process_158 (Nat.le_of_ble_eq_true rfl) rfl (j_aload hF dX7_process_160 rfl (j_iload_n hF dX7_process_162 rfl (j_iload hF dX7_process_163 rfl ?_)))
                      have hge := hGE.2.2 e c22.1 (by omega)
                      have hs6 : 0 ≤ js2 e ∧ js2 e < 6 := by rw [hge.1]; exact hr6.1
                      have hd2 := hGE.rgd hGV.1 (js2 e) hs6.1 hs6.2
                      have hk3 : 0 ≤ jk2 e ∧ jk2 e ≤ 3 := by
                        rw [hge.2.2]
                        unfold m_kind
                        (repeat' split) <;> omega
                      refine j_callV hF (c_X0_timeAfter hGP (by omega) hbt hs6 hd2 hk3) ms_X0_timeAfter mv_X0_timeAfter lk_RX7_90 dX7_process_165 hGP.1 rfl rfl rfl (by simp [Value.category]) ⟨⟨(Nat.le_of_ble_eq_true rfl), (Nat.le_of_ble_eq_true rfl)⟩, by omega, by omega⟩ (fun v27 X27 hp27 hE27 => ?_)
                      obtain ⟨rfl, he27⟩ := hp27; obtain rfl := he27.symm
                      rw [moved_eq hGV ⟨c22.1, by omega⟩ hbt hge.2.2 (by rw [hge.1, hGE.2.1 _ hr6.1.1 hr6.1.2]) (by have z := hvs.2.2; unfold m_depth at z; rw [if_neg (by omega), show 17 + (6 + e) - 6 = 17 + e by omega] at z; exact z)]
                      have hmr := mv_rg2 (r := r) (e := e) hbt
                      obtain ⟨tt, htt⟩ : ∃ tt, tt = m_moved r e (r (67 + 12 * (10 * w + e))) := ⟨_, rfl⟩
                      rw [← htt] at hmr ⊢
                      have hnd := hr6.2.1
                      have hto2 : ∀ i, i < 47 ∨ 307 ≤ i → (m_take r (10 * w + e)) i = r i := fun i hi => m_take_n (by omega) (by omega) (by omega)
                      have hTM : m_moved (m_take r (10 * w + e)) e (r (67 + 12 * (10 * w + e))) = m_moved r e (r (67 + 12 * (10 * w + e))) := SG.moved (fun i _ i2 _ _ => hto2 i (by omega)) hGV.1 c22.1 (by omega)
                      have hKK : KK (fun i => ¬ i = 2 ∧ ¬ i = 4) := fun i hi => by omega
                      have hKK2 : KK (fun i => ¬ i = 2) := fun i hi => by omega
                      have hak0 : AK (fun i => ¬ i = 2) (m_take (fu r 2 1) (10 * w + e)) (m_take r (10 * w + e)) := AK.tk hKK2 (AG.b r) hL (by rw [hbz]; omega)
                      have J240 : ∀ (Y : Hp) (kn1 kc ks : Nat) (R : Int → Int), OT Y pt ea sa y st B (sv_n sv) (sv_p r pf sv) kr2 → Y ea = some (1, ia 0 4 er) → WR Y 100 y mk gn R → ST Y B st kn1 R → FB 0 5000 X Y → GI R → AS R → R 2 = 1 → kn ≤ kn1 → kc ≤ (kr2 - kr) + (kn1 - kn) → ks ≤ 6 * ((kr2 - kr) + (kn1 - kn)) → RI R (N + 11) → AG R (if m_moved (m_take r (10 * w + e)) e (r (67 + 12 * (10 * w + e))) = -1 then (m_take r (10 * w + e)) else m_proc1 (m_take r (10 * w + e)) w o tg u (r (27 + e)) (m_moved (m_take r (10 * w + e)) e (r (67 + 12 * (10 * w + e))))) → Jd φ Y kc ks 240 [some (.ref pt), some (vi w), some (vi e), some (vi o), some (vi tg), some (vi u), some (.ref g), some (vi (r (27 + e))), some (vi (r (67 + 12 * (10 * w + e)))), some (vi tt)] [] := by
                        intro Y kn1 kc ks R hO hea hWR hSTr hFY hGr hAr h2r hj1 hj2 hj3 hIr hag
                        have hpt := hO.pt.1
                        obtain ⟨olr, h1⟩ := hSTr.obj
                        have hjl := hSTr.le
                        refine j_aload_n hF dX7_process_240 rfl (j_get hF hpt fl_RX7_27 dX7_process_241 rfl (j_iload_n hF dX7_process_244 rfl (j_bipush hF dX7_process_245 (by decide) (j_iload_n hF dX7_process_247 rfl (j_iadd hF dX7_process_248 ?_)))))
                        refine j_iload hF dX7_process_249 rfl (j_callS hF (c_X7_stampOf) ms_X7_stampOf mt_X7_stampOf lk_RX7_94 dX7_process_251 rfl rfl rfl (by simp [Value.category]) ⟨⟨(Nat.le_of_ble_eq_true rfl), (Nat.le_of_ble_eq_true rfl)⟩, by omega, by omega⟩ (fun v1 X1 hp1 hE1 => ?_))
                        obtain ⟨rfl, he1⟩ := hp1; obtain rfl := he1.symm
                        refine j_iconst hF dX7_process_254 (j_callVv hF (c_X2_update (p := 6 + e) (t := r (67 + 12 * (10 * w + e))) (c := -1) (N := N + 11) hSTr hGr hAr hIr (by omega) h2r c13 (by omega) hbt (by omega)) ms_X2_update mv_X2_update lk_RX7_136 dX7_process_255 h1 rfl rfl rfl (by simp [Value.category]) ⟨⟨(Nat.le_of_ble_eq_true rfl), (Nat.le_of_ble_eq_true rfl)⟩, by omega, by omega⟩ (fun v2 X2 k2 n2 hp2 hE2 => ?_))
                        obtain ⟨rfl, kn5, hST5, hFq5, hq15, hq25, hq35⟩ := hp2
                        have hq45 := hST5.le
                        refine j_iload hF dX7_process_258 rfl (j_iretv hF hR dX7_process_260 (by omega) (by omega) ?_)
                        have hsg : SG R (m_upd R w (6 + e) (r (67 + 12 * (10 * w + e))) (-1)) := SG.upd hIr c13 (by omega) hbt
                        have hP2 := PP.mk (hO.keep hFq5 (by omega)) (hFq5 _ _ _ hea (by omega)) ((hWR.keep hFq5 (by omega)).row hGr hsg) (c := ct + 1) (by omega) hST5
                        refine PV ?_ hP2 (hFY.trans (hFq5.mono (by omega) (by omega))) (by omega) (by omega) (by omega)
                        unfold sp_process
                        refine (pif_t ⟨⟨⟨⟨c13, c22⟩, c30⟩, c38⟩, c47⟩).trans ((pif_f hnp).trans ((pif_f hnf).trans ?_))
                        unfold sp_new m_proc
                        dsimp only
                        rw [hag.upd c13 (by omega) (by omega) (hIr.q (w := 1 - w) (by omega)).1, hTM, htt]
                      have J229 : ¬ tt = -1 → ∀ (Y : Hp) (kn1 kc ks : Nat) (R : Int → Int), OT Y pt ea sa y st B (sv_n sv) (sv_p r pf sv) kr2 → Y ea = some (1, ia 0 4 er) → WR Y 100 y mk gn R → ST Y B st kn1 R → FB 0 5000 X Y → GI R → AS R → R 2 = 1 → kn ≤ kn1 → kc ≤ (kr2 - kr) + (kn1 - kn) → ks ≤ 6 * ((kr2 - kr) + (kn1 - kn)) → RI R (N + 11) → AK (fun i => ¬ i = 2 ∧ ¬ i = 4) R (m_proc1 (m_take r (10 * w + e)) w o tg u (r (27 + e)) tt) → R 4 = r 4 → (m_vio R (r (27 + e)) tt ↔ m_vio r (r (27 + e)) tt) → (m_proc1 (m_take r (10 * w + e)) w o tg u (r (27 + e)) tt) 4 = r 4 + bz (m_vio r (r (27 + e)) tt) → Jd φ Y kc ks 229 [some (.ref pt), some (vi w), some (vi e), some (vi o), some (vi tg), some (vi u), some (.ref g), some (vi (r (27 + e))), some (vi (r (67 + 12 * (10 * w + e)))), some (vi tt)] [] := by
                        intro htn Y kn1 kc ks R hO hea hWR hSTr hFY hGr hAr h2r hj1 hj2 hj3 hIr hak h4r hvr hm4
                        have hpt := hO.pt.1
                        obtain ⟨olr, h1⟩ := hSTr.obj
                        have hjl := hSTr.le
                        have htr : 0 ≤ tt ∧ tt ≤ 999 := by omega
                        refine j_aload_n hF dX7_process_229 rfl (j_get hF hpt fl_RX7_27 dX7_process_230 rfl (j_iload hF dX7_process_233 rfl (j_iload hF dX7_process_235 rfl (j_callV hF (c_X2_recordArrival hSTr hGr hAr hnd htr) ms_X2_recordArrival mv_X2_recordArrival lk_RX7_173 dX7_process_237 h1 rfl rfl rfl (by simp [Value.category]) ⟨⟨(Nat.le_of_ble_eq_true rfl), (Nat.le_of_ble_eq_true rfl)⟩, by omega, by omega⟩ (fun v1 X1 hp1 hE1 => ?_)))))
                        obtain ⟨rfl, hST4, hFa⟩ := hp1
                        have h4x : ∀ i, ¬ i = 4 → fu R 4 (R 4 + bz (m_vio R (r (27 + e)) tt)) i = R i := fun i hi => fu_n hi
                        refine J240 _ kn1 _ _ _ (hO.keep hFa (by omega)) (hFa _ _ _ hea (by omega)) ((hWR.keep hFa (by omega)).row hGr (fun i _ _ h5 _ => h4x i (by omega))) hST4 (hFY.trans (hFa.mono (by omega) (by omega))) (hGr.eq (fun i _ _ _ _ h5 _ => h4x i h5)) (hAr.row (fun i _ _ => h4x i (by omega))) (by rw [h4x 2 (by omega)]; exact h2r) hj1 hj2 hj3 (hIr.row (fun i _ _ => h4x i (by omega))) (fun i hi => ?_)
                        rw [if_neg (by rw [hTM, ← htt]; exact htn), hTM, ← htt]
                        by_cases q4 : i = 4
                        · rw [q4, fu_s, hm4, h4r, bz_iff hvr]
                        · rw [h4x i q4]; exact hak i ⟨hi, q4⟩
                      refine j_istore hF dX7_process_168 (Nat.le_of_ble_eq_true rfl) rfl (j_iload hF dX7_process_170 rfl (j_iconst hF dX7_process_172 (j_icmp_eq hF 240 dX7_process_173 (by decide) (by omega) (fun c173 => ?_) (fun c173 => ?_))))
                      ·
                        exact J240 _ kn _ _ _ hO hea hWR ⟨g, ml, ws, va, qa, oe, dc, v_, q_, n_, m_, z_, f_, hS, hV, hQ, hk_⟩ hFF hG1 hA1 h21 (Nat.le_refl _) (by omega) (by omega) (hI1.mono (by omega)) (by rw [if_pos (by rw [hTM, ← htt]; exact c173)]; exact hak0)
                      ·
                        refine j_aload_n hF dX7_process_176 rfl (j_get hF hpt fl_RX7_27 dX7_process_177 rfl (j_iload_n hF dX7_process_180 rfl (j_iload_n hF dX7_process_181 rfl (j_iload hF dX7_process_182 rfl (j_iload hF dX7_process_184 rfl ?_)))))
                        have hsz : ∀ l, 0 ≤ l → l < 20 → (m_take (fu r 2 1) (10 * w + e)) (47 + l) ≤ r (47 + l) := by
                          intro l l1 l2
                          by_cases ql : l = (10 * w + e)
                          · rw [ql, m_take_c hL, hbz]; omega
                          · rw [m_take_n (by rw [hbz]; omega) (by omega) (by omega), fu_n (by omega)]; exact Int.le_refl _
                        have hM1 : RM2 (m_take (fu r 2 1) (10 * w + e)) := RM2.take (hm.fu4 (by omega)) hL (by rw [hbz]; omega)
                        refine j_callVv hF (c_X2_putMessages (N := N) (r := (m_take (fu r 2 1) (10 * w + e))) ⟨g, ml, ws, va, qa, oe, dc, v_, q_, n_, m_, z_, f_, hS, hV, hQ, rfl⟩ hG1 hA1 hI1 hM1 (by omega) h21 c13 (by omega) c30 (by omega) (by rw [h11]; exact (fun x x1 x2 x3 => by have z1 := hnf0 x x1 (by omega) x3; have z2 := hm (10 * tg + x) (by omega) (by omega); have z3 : (m_take (fu r 2 1) (10 * w + e)) (47 + (10 * tg + x)) ≤ r (47 + (10 * tg + x)) := hsz (10 * tg + x) (by omega) (by omega); omega))) ms_X2_putMessages mv_X2_putMessages lk_RX7_166 dX7_process_186 h1 rfl rfl rfl (by simp [Value.category]) ⟨⟨(Nat.le_of_ble_eq_true rfl), (Nat.le_of_ble_eq_true rfl)⟩, by omega, by omega⟩ (fun v28 X28 k28 n28 hp28 hE28 => ?_)
                        obtain ⟨rfl, kn3, hST3, hFq3, hq13, hq23, hq33⟩ := hp28
                        have hq43 := hST3.le
                        have hO := hO.keep hFq3 (by omega)
                        have hpt := hO.pt.1
                        obtain ⟨ol3, h1⟩ := hST3.obj
                        have hea := hFq3 _ _ _ hea (by omega)
                        have hFF := hFF.trans (hFq3.mono (by omega) (by omega))
                        have htr : 0 ≤ tt ∧ tt ≤ 999 := by omega
                        obtain ⟨i1, i2, i3, i4⟩ := m_pa_inv (w := w) (o := o) (tg := tg) (t := tt) (E := r 1) hI1 hM1 (by omega) c13 c30 htr b1.2 (fun x x1 x2 x3 => by have z1 := hnf0 x x1 (by omega) x3; have z2 := hm (10 * tg + x) (by omega) (by omega); have z3 : (m_take (fu r 2 1) (10 * w + e)) (47 + (10 * tg + x)) ≤ r (47 + (10 * tg + x)) := hsz (10 * tg + x) (by omega) (by omega); omega) ((m_take (fu r 2 1) (10 * w + e)) 1).toNat (by omega)
                        have hsg3 : SG (m_take (fu r 2 1) (10 * w + e)) (m_pa w o tg tt ((m_take (fu r 2 1) (10 * w + e)) 1).toNat (m_take (fu r 2 1) (10 * w + e))) := fun i _ i2_ i3_ _ => i2 i (by omega) (by omega)
                        have hWR := (hWR.keep hFq3 (by omega)).row hG1 hsg3
                        have hG3 := hsg3.gi hG1
                        have hA3 : AS (m_pa w o tg tt ((m_take (fu r 2 1) (10 * w + e)) 1).toNat (m_take (fu r 2 1) (10 * w + e))) := hA1.row (fun i _ _ => i2 i (by omega) (by omega))
                        have hI3 : RI (m_pa w o tg tt ((m_take (fu r 2 1) (10 * w + e)) 1).toNat (m_take (fu r 2 1) (10 * w + e))) (N + 10) := i1.mono (by omega)
                        have h23 := m_pa_2 (w := w) (o := o) (tg := tg) (t := tt) h21 ((m_take (fu r 2 1) (10 * w + e)) 1).toNat
                        have hTsz : ∀ l, 0 ≤ l → l < 20 → (m_take r (10 * w + e)) (47 + l) ≤ r (47 + l) := fun l l1 l2 => by rw [← hak0 _ (by omega)]; exact hsz l l1 l2
                        have hFTo : ∀ i, ¬ i = 4 → (fu (m_take r (10 * w + e)) 4 ((m_take r (10 * w + e)) 4 + bz (m_vio (m_take r (10 * w + e)) (r (27 + e)) tt))) i = (m_take r (10 * w + e)) i := fun i hi => fu_n hi
                        have hFT1 : (fu (m_take r (10 * w + e)) 4 ((m_take r (10 * w + e)) 4 + bz (m_vio (m_take r (10 * w + e)) (r (27 + e)) tt))) 1 = r 1 := by rw [hFTo 1 (by omega), hto2 1 (by omega)]
                        have hIT : RI (fu (m_take r (10 * w + e)) 4 ((m_take r (10 * w + e)) 4 + bz (m_vio (m_take r (10 * w + e)) (r (27 + e)) tt))) N := hI.row (fun i _ _ => by rw [hFTo i (by omega), hto2 i (by omega)])
                        have hMT : RM2 (fu (m_take r (10 * w + e)) 4 ((m_take r (10 * w + e)) 4 + bz (m_vio (m_take r (10 * w + e)) (r (27 + e)) tt))) := (RM2.take hm hL (by omega)).fu4 (by omega)
                        obtain ⟨j1, j2, j3, j4⟩ := m_pa_inv (w := w) (o := o) (tg := tg) (t := tt) (E := r 1) hIT hMT (by omega) c13 c30 htr b1.2 (fun x x1 x2 x3 => by rw [hFTo _ (by omega)]; have z1 := hnf0 x x1 x2 x3; have z2 := hm (10 * tg + x) (by omega) (by omega); have z3 := hTsz (10 * tg + x) (by omega) (by omega); omega) ((fu (m_take r (10 * w + e)) 4 ((m_take r (10 * w + e)) 4 + bz (m_vio (m_take r (10 * w + e)) (r (27 + e)) tt))) 1).toNat (by omega)
                        have hak1 : AK (fun i => ¬ i = 2 ∧ ¬ i = 4) (m_take (fu r 2 1) (10 * w + e)) (fu (m_take r (10 * w + e)) 4 ((m_take r (10 * w + e)) 4 + bz (m_vio (m_take r (10 * w + e)) (r (27 + e)) tt))) := fun i hi => by rw [hFTo i hi.2]; exact hak0 i hi.1
                        have hak2 : AK (fun i => ¬ i = 2 ∧ ¬ i = 4) (m_pa w o tg tt ((m_take (fu r 2 1) (10 * w + e)) 1).toNat (m_take (fu r 2 1) (10 * w + e))) (m_pa w o tg tt ((fu (m_take r (10 * w + e)) 4 ((m_take r (10 * w + e)) 4 + bz (m_vio (m_take r (10 * w + e)) (r (27 + e)) tt))) 1).toNat (fu (m_take r (10 * w + e)) 4 ((m_take r (10 * w + e)) 4 + bz (m_vio (m_take r (10 * w + e)) (r (27 + e)) tt)))) := by
                          rw [h11, hFT1]
                          exact AK.pa hKK hak1 c13 c30 htr.1 _ (by omega)
                        have h4T : (fu (m_take r (10 * w + e)) 4 ((m_take r (10 * w + e)) 4 + bz (m_vio (m_take r (10 * w + e)) (r (27 + e)) tt))) 4 = r 4 + bz (m_vio r (r (27 + e)) tt) := by rw [fu_s, hto2 4 (by omega), bz_iff (mvio_eq hnd (fun i _ _ => hto2 i (by omega)))]
                        have h42 : (m_pa w o tg tt ((m_take (fu r 2 1) (10 * w + e)) 1).toNat (m_take (fu r 2 1) (10 * w + e))) 4 = r 4 := by rw [i2 4 (by omega) (by omega), hto 4 (by omega), fu_n (by omega)]
                        have hv2 : ∀ i, 359 ≤ i → i < 6359 → (m_pa w o tg tt ((m_take (fu r 2 1) (10 * w + e)) 1).toNat (m_take (fu r 2 1) (10 * w + e))) i = r i := fun i _ _ => by rw [i2 i (by omega) (by omega), hto i (by omega), fu_n (by omega)]
                        refine j_iload hF dX7_process_189 rfl (j_iconst hF dX7_process_191 (j_icmp_ne hF 229 dX7_process_192 (by decide) (by omega) (fun c192 => ?_) (fun c192 => ?_)))
                        ·
                          have hm1e : (m_proc1 (m_take r (10 * w + e)) w o tg u (r (27 + e)) tt) = m_pa w o tg tt ((fu (m_take r (10 * w + e)) 4 ((m_take r (10 * w + e)) 4 + bz (m_vio (m_take r (10 * w + e)) (r (27 + e)) tt))) 1).toNat (fu (m_take r (10 * w + e)) 4 ((m_take r (10 * w + e)) 4 + bz (m_vio (m_take r (10 * w + e)) (r (27 + e)) tt))) := by unfold m_proc1; rw [if_neg c192]
                          exact J229 c173 _ kn3 _ _ _ hO hea hWR hST3 hFF hG3 hA3 h23 (by omega) (by omega) (by omega) (hI3.mono (by omega)) (by rw [hm1e]; exact hak2) h42 (mvio_eq hnd hv2) (by rw [hm1e, j2 4 (by omega) (by omega)]; exact h4T)
                        ·
                          obtain rfl : u = 1 := c192
                          obtain ⟨g3, ml3, ws3, va3, qa3, oe3, dc3, v3_, q3_, n3_, m3_, z3_, f3_, hS3, hV3, hQ3, hk3_⟩ := id hST3
                          obtain ⟨-, -, -, -, h1s, -, -, ⟨wz3, wt3, uz3, ut3, hWP3, x33⟩, -⟩ := id hS3
                          have hw3 : (m_pa w o tg tt ((m_take (fu r 2 1) (10 * w + e)) 1).toNat (m_take (fu r 2 1) (10 * w + e))) (307 + w) = r (307 + w) := by rw [i2 _ (by omega) (by omega), hto _ (by omega), fu_n (by omega)]
                          have hAw := hA w c13.1 (by omega)
                          have hw12 : 0 ≤ (m_pa w o tg tt ((m_take (fu r 2 1) (10 * w + e)) 1).toNat (m_take (fu r 2 1) (10 * w + e))) (307 + w) ∧ (m_pa w o tg tt ((m_take (fu r 2 1) (10 * w + e)) 1).toNat (m_take (fu r 2 1) (10 * w + e))) (307 + w) < 12 := by rw [hw3]; exact ⟨hAw.1, by have : ¬ r (307 + w) = 12 := fun h => hnf (Or.inr ⟨rfl, h⟩); omega⟩
                          refine j_aload_n hF dX7_process_195 rfl (j_get hF hpt fl_RX7_27 dX7_process_196 rfl (j_get hF h1s fl_RX7_155 dX7_process_199 rfl (j_iload_n hF dX7_process_202 rfl (j_iload hF dX7_process_203 rfl (j_iload hF dX7_process_205 rfl ?_)))))
                          refine j_callS hF (c_X7_stampOf) ms_X7_stampOf mt_X7_stampOf lk_RX7_94 dX7_process_207 rfl rfl rfl (by simp [Value.category]) ⟨⟨(Nat.le_of_ble_eq_true rfl), (Nat.le_of_ble_eq_true rfl)⟩, by omega, by omega⟩ (fun v29 X29 hp29 hE29 => ?_)
                          obtain ⟨rfl, he29⟩ := hp29; obtain rfl := he29.symm
                          refine j_callV hF (c_X6_put (x := 1000 * r (27 + e) + tt) hWP3 c13 (by rw [(x33 w c13.1 c13.2).1]; exact hw12) (by omega)) ms_X6_put mv_X6_put lk_RX7_169 dX7_process_210 hWP3.1 rfl rfl rfl (by simp [Value.category]) ⟨⟨(Nat.le_of_ble_eq_true rfl), (Nat.le_of_ble_eq_true rfl)⟩, by omega, by omega⟩ (fun v30 X30 hp30 hE30 => ?_)
                          obtain ⟨rfl, hWn⟩ := hp30
                          have hFw : FB (B + 30) (B + 40) _ X30 := hWn.2
                          have hHn : HR X30 (B + 30) ws3 (m_rq1 (m_pa w o tg tt ((m_take (fu r 2 1) (10 * w + e)) 1).toNat (m_take (fu r 2 1) (10 * w + e))) w (r (27 + e)) tt) := by
                            refine ⟨_, _, _, _, hWn.1, fun z z1 z2 => ⟨?_, ?_⟩⟩
                            · rw [rq_z c13 hw12 ⟨z1, z2⟩]
                              by_cases qz : z = w
                              · rw [if_pos qz, qz, fu_s, (x33 w c13.1 c13.2).1]
                              · rw [if_neg qz, fu_n qz]; exact (x33 z z1 z2).1
                            · rw [(x33 w c13.1 c13.2).1]; exact (x33 z z1 z2).2.ask hA3 c13 ⟨z1, z2⟩ hw12
                          have hro : ∀ i, i < 307 ∨ 357 ≤ i → m_rq1 (m_pa w o tg tt ((m_take (fu r 2 1) (10 * w + e)) 1).toNat (m_take (fu r 2 1) (10 * w + e))) w (r (27 + e)) tt i = (m_pa w o tg tt ((m_take (fu r 2 1) (10 * w + e)) 1).toNat (m_take (fu r 2 1) (10 * w + e))) i := fun i hi => rq_o c13 hw12 hi
                          have hS4 := hS3.wish hG3 hHn hFw (fun i _ hi => hro i hi)
                          have hV4 := (hV3.keep hFw (by omega)).row (r' := m_rq1 (m_pa w o tg tt ((m_take (fu r 2 1) (10 * w + e)) 1).toNat (m_take (fu r 2 1) (10 * w + e))) w (r (27 + e)) tt) (fun i _ => hro i (by omega))
                          have hQ4 := (hQ3.keep hFw (by omega)).row (r' := m_rq1 (m_pa w o tg tt ((m_take (fu r 2 1) (10 * w + e)) 1).toNat (m_take (fu r 2 1) (10 * w + e))) w (r (27 + e)) tt) (fun i _ _ => hro i (by omega))
                          have hO := hO.keep hFw (by omega)
                          have hpt := hO.pt.1
                          have h1s := hS4.o1
                          have hea := hFw _ _ _ hea (by omega)
                          have hFF := hFF.trans (hFw.mono (by omega) (by omega))
                          have hsg4 : SG (m_pa w o tg tt ((m_take (fu r 2 1) (10 * w + e)) 1).toNat (m_take (fu r 2 1) (10 * w + e))) (m_rq1 (m_pa w o tg tt ((m_take (fu r 2 1) (10 * w + e)) 1).toNat (m_take (fu r 2 1) (10 * w + e))) w (r (27 + e)) tt) := fun i _ _ _ _ => hro i (by omega)
                          have hWR := (hWR.keep hFw (by omega)).row hG3 hsg4
                          have hG4 := hsg4.gi hG3
                          have hA4 : AS (m_rq1 (m_pa w o tg tt ((m_take (fu r 2 1) (10 * w + e)) 1).toNat (m_take (fu r 2 1) (10 * w + e))) w (r (27 + e)) tt) := by
                            intro z z1 z2
                            rw [rq_z c13 hw12 ⟨z1, by omega⟩]
                            have z3 := hA3 z z1 z2
                            split
                            · omega
                            · exact z3
                          have hI4 : RI (m_rq1 (m_pa w o tg tt ((m_take (fu r 2 1) (10 * w + e)) 1).toNat (m_take (fu r 2 1) (10 * w + e))) w (r (27 + e)) tt) (N + 10) := hI3.row (fun i _ _ => hro i (by omega))
                          have h24 : m_rq1 (m_pa w o tg tt ((m_take (fu r 2 1) (10 * w + e)) 1).toNat (m_take (fu r 2 1) (10 * w + e))) w (r (27 + e)) tt 2 = 1 := by rw [hro 2 (by omega)]; exact h23
                          refine j_aload_n hF dX7_process_213 rfl (j_get hF hpt fl_RX7_27 dX7_process_214 rfl (j_iload_n hF dX7_process_217 rfl (j_iload hF dX7_process_218 rfl (j_iload hF dX7_process_220 rfl (j_callS hF (c_X7_stampOf) ms_X7_stampOf mt_X7_stampOf lk_RX7_94 dX7_process_222 rfl rfl rfl (by simp [Value.category]) ⟨⟨(Nat.le_of_ble_eq_true rfl), (Nat.le_of_ble_eq_true rfl)⟩, by omega, by omega⟩ (fun v31 X31 hp31 hE31 => ?_))))))
                          obtain ⟨rfl, he31⟩ := hp31; obtain rfl := he31.symm
                          refine j_iconst hF dX7_process_225 (j_callVv hF (c_X2_update (p := r (27 + e)) (t := tt) (c := 1) (N := N + 10) (r := m_rq1 (m_pa w o tg tt ((m_take (fu r 2 1) (10 * w + e)) 1).toNat (m_take (fu r 2 1) (10 * w + e))) w (r (27 + e)) tt) ⟨g3, ml3, ws3, va3, qa3, oe3, dc3, v3_, q3_, n3_, m3_, z3_, f3_, hS4, hV4, hQ4, hk3_⟩ hG4 hA4 hI4 (by omega) h24 c13 (by omega) htr (by omega)) ms_X2_update mv_X2_update lk_RX7_136 dX7_process_226 h1s rfl rfl rfl (by simp [Value.category]) ⟨⟨(Nat.le_of_ble_eq_true rfl), (Nat.le_of_ble_eq_true rfl)⟩, by omega, by omega⟩ (fun v32 X32 k32 n32 hp32 hE32 => ?_))
                          obtain ⟨rfl, kn4, hST4, hFq4, hq14, hq24, hq34⟩ := hp32
                          have hq44 := hST4.le
                          have hO := hO.keep hFq4 (by omega)
                          have hpt := hO.pt.1
                          have hea := hFq4 _ _ _ hea (by omega)
                          have hFF := hFF.trans (hFq4.mono (by omega) (by omega))
                          have hup : ∀ i, ¬ i = 2 → (i < 357 ∨ (358 < i ∧ i < 6359)) → (m_upd (m_rq1 (m_pa w o tg tt ((m_take (fu r 2 1) (10 * w + e)) 1).toNat (m_take (fu r 2 1) (10 * w + e))) w (r (27 + e)) tt) w (r (27 + e)) tt 1) i = m_rq1 (m_pa w o tg tt ((m_take (fu r 2 1) (10 * w + e)) 1).toNat (m_take (fu r 2 1) (10 * w + e))) w (r (27 + e)) tt i := fun i hi h5 => m_upd_lo hI4 c13 (by omega) htr hi h5
                          have hsg5 : SG (m_rq1 (m_pa w o tg tt ((m_take (fu r 2 1) (10 * w + e)) 1).toNat (m_take (fu r 2 1) (10 * w + e))) w (r (27 + e)) tt) (m_upd (m_rq1 (m_pa w o tg tt ((m_take (fu r 2 1) (10 * w + e)) 1).toNat (m_take (fu r 2 1) (10 * w + e))) w (r (27 + e)) tt) w (r (27 + e)) tt 1) := SG.upd hI4 c13 (by omega) htr
                          have hm1e : (m_proc1 (m_take r (10 * w + e)) w o tg 1 (r (27 + e)) tt) = m_upd (m_rq1 (m_pa w o tg tt ((fu (m_take r (10 * w + e)) 4 ((m_take r (10 * w + e)) 4 + bz (m_vio (m_take r (10 * w + e)) (r (27 + e)) tt))) 1).toNat (fu (m_take r (10 * w + e)) 4 ((m_take r (10 * w + e)) 4 + bz (m_vio (m_take r (10 * w + e)) (r (27 + e)) tt)))) w (r (27 + e)) tt) w (r (27 + e)) tt 1 := by unfold m_proc1; rw [if_pos rfl]; rfl
                          have hw3T : m_pa w o tg tt ((fu (m_take r (10 * w + e)) 4 ((m_take r (10 * w + e)) 4 + bz (m_vio (m_take r (10 * w + e)) (r (27 + e)) tt))) 1).toNat (fu (m_take r (10 * w + e)) 4 ((m_take r (10 * w + e)) 4 + bz (m_vio (m_take r (10 * w + e)) (r (27 + e)) tt))) (307 + w) = r (307 + w) := by rw [j2 _ (by omega) (by omega), hFTo _ (by omega), hto2 _ (by omega)]
                          have hI6 : RI (m_rq1 (m_pa w o tg tt ((fu (m_take r (10 * w + e)) 4 ((m_take r (10 * w + e)) 4 + bz (m_vio (m_take r (10 * w + e)) (r (27 + e)) tt))) 1).toNat (fu (m_take r (10 * w + e)) 4 ((m_take r (10 * w + e)) 4 + bz (m_vio (m_take r (10 * w + e)) (r (27 + e)) tt)))) w (r (27 + e)) tt) (N + 10) := (j1.mono (by omega)).row (fun i _ _ => rq_o c13 (by rw [hw3T, ← hw3]; exact hw12) (by omega))
                          exact J229 c173 _ kn4 _ _ _ hO hea ((hWR.keep hFq4 (by omega)).row hG4 hsg5) hST4 hFF (hsg5.gi hG4) (hA4.row (fun i _ _ => hup i (by omega) (by omega))) (by unfold m_upd; exact fu_s) (by omega) (by omega) (by omega) (hI4.up (by omega) c13 (by omega) htr (by omega) |>.mono (by omega)) (by rw [hm1e]; exact AK.upd hKK (AK.rq hKK hak2 c13) c13 (by omega) htr.1) (by rw [hup 4 (by omega) (by omega), hro 4 (by omega)]; exact h42) (mvio_eq hnd (fun i _ _ => by rw [hup i (by omega) (by omega), hro i (by omega)]; exact hv2 i (by omega) (by omega))) (by rw [hm1e, m_upd_lo hI6 c13 (by omega) htr (by omega) (by omega), rq_o c13 (by rw [hw3T, ← hw3]; exact hw12) (by omega), j2 4 (by omega) (by omega)]; exact h4T)
                    ·
                      refine j_aload_n hF dX7_process_135 rfl (j_bipush hF dX7_process_136 (by decide) (j_callV hF (c_X7_fail hP hE (by omega)) ms_X7_fail mv_X7_fail lk_RX7_35 dX7_process_138 hpt rfl rfl rfl (by simp [Value.category]) ⟨⟨(Nat.le_of_ble_eq_true rfl), (Nat.le_of_ble_eq_true rfl)⟩, by omega, by omega⟩ (fun v33 X33 hp33 hE33 => ?_)))
                      obtain ⟨rfl, hP2, hF2⟩ := hp33
                      refine j_iretv hF hR dX7_process_141 (by omega) (by omega) ?_
                      refine PV ?_ (hP2.mono (by omega)) hF2 (by omega) (by omega) (by omega)
                      have hnp : ¬ (r (47 + (10 * w + e)) = 0 ∨ ¬ BA (fun x => hb o x → r (17 + x) = r (27 + e)) (r 1)) := fun h => h.elim (fun h => absurd h (by omega)) (fun h => h c89)
                      unfold sp_process
                      refine (pif_t ⟨⟨⟨⟨c13, c22⟩, c30⟩, c38⟩, c47⟩).trans ((pif_f hnp).trans ?_)
                      first | exact pif_t (Or.inl c112) | exact pif_t (Or.inr ⟨c118, c132⟩)
              ·
                refine j_aload_n hF dX7_process_92 rfl (j_bipush hF dX7_process_93 (by decide) (j_callV hF (c_X7_fail hP hE (by omega)) ms_X7_fail mv_X7_fail lk_RX7_35 dX7_process_95 hpt rfl rfl rfl (by simp [Value.category]) ⟨⟨(Nat.le_of_ble_eq_true rfl), (Nat.le_of_ble_eq_true rfl)⟩, by omega, by omega⟩ (fun v34 X34 hp34 hE34 => ?_)))
                obtain ⟨rfl, hP2, hF2⟩ := hp34
                refine j_iretv hF hR dX7_process_98 (by omega) (by omega) ?_
                refine PV ?_ (hP2.mono (by omega)) hF2 (by omega) (by omega) (by omega)
                unfold sp_process
                first | exact (pif_t ⟨⟨⟨⟨c13, c22⟩, c30⟩, c38⟩, c47⟩).trans (pif_t (Or.inl c78)) | exact (pif_t ⟨⟨⟨⟨c13, c22⟩, c30⟩, c38⟩, c47⟩).trans (pif_t (Or.inr c89))
          ·
            refine j_aload_n hF dX7_process_50 rfl (j_bipush hF dX7_process_51 (by decide) (j_callV hF (c_X7_fail hP hE (by omega)) ms_X7_fail mv_X7_fail lk_RX7_35 dX7_process_53 hpt rfl rfl rfl (by simp [Value.category]) ⟨⟨(Nat.le_of_ble_eq_true rfl), (Nat.le_of_ble_eq_true rfl)⟩, by omega, by omega⟩ (fun v35 X35 hp35 hE35 => ?_)))
            obtain ⟨rfl, hP2, hF2⟩ := hp35
            refine j_iretv hF hR dX7_process_56 (by omega) (by omega) ?_
            refine PV ?_ (hP2.mono (by omega)) hF2 (by omega) (by omega) (by omega)
            unfold sp_process
            first | exact pif_f (fun h => c13 h.1.1.1.1) | exact pif_f (fun h => c22 h.1.1.1.2) | exact pif_f (fun h => c30 h.1.1.2) | exact pif_f (fun h => c38 h.1.2) | exact pif_f (fun h => c47 h.2)

