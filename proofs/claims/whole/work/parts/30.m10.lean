theorem RM2.take {r : Int → Int} {l : Int} (h : RM2 r) (hl : 0 ≤ l ∧ l < 20) (h1 : 1 ≤ r (47 + l)) : RM2 (m_take r l) := fun x x1 x2 => by
  have q := h x x1 x2
  have q2 := (h l hl.1 hl.2).2
  by_cases hx : x = l
  · rw [hx, m_take_c hl]; omega
  · rw [m_take_n q2 (by omega) (by omega)]; exact q
theorem RM2.fu4 {r : Int → Int} {i v : Int} (h : RM2 r) (hi : i < 47 ∨ 67 ≤ i) : RM2 (fu r i v) := fun x x1 x2 => by
  rw [fu_n (by omega)]; exact h x x1 x2
set_option maxRecDepth 100000 in
set_option maxHeartbeats 4000000 in
theorem c_X8_process {X : Hp} {ad : Nat → Nat} {r pf : Int → Int} {sv : Int} {er sn lw rc wt : Int → Int} {wg : Int} {ls ac fi : Int → Int} {as : Int} {hh : Int64} (hM : MM X ad r pf sv er sn lw rc wt wg ls ac fi as hh) {w e o tg q N : Int} (hG : GI r) (hE : EI er) (hI : RI r N) (hN : N + 12 < 8192) (hm : RM2 r) (hs : 0 ≤ sv ∧ sv ≤ 3) (hA : AS r) (hmt : MTM r) (hv : VC r) (h_w : -2147483648 ≤ w ∧ w ≤ 2147483647) (h_e : -2147483648 ≤ e ∧ e ≤ 2147483647) (h_o : -2147483648 ≤ o ∧ o ≤ 2147483647) (h_tg : -2147483648 ≤ tg ∧ tg ≤ 2147483647) (h_q : -2147483648 ≤ q ∧ q ≤ 2147483647) : Ct yX8_process cX8_process 10 (some .int) 3 73 [.ref (ad 0), vi w, vi e, vi o, vi tg, vi q] X 0 0 (fun rv X' => rv = some (vi (sp_process (r, pf, sv, er) w e o tg q).1) ∧ MX X X' ad (sp_process (r, pf, sv, er) w e o tg q).2) := by
  refine Ct.of (by decide +kernel) [some (.ref (ad 0)), some (vi w), some (vi e), some (vi o), some (vi tg), some (vi q), none, none, none, none] rfl (Nat.le_of_ble_eq_true rfl) (fun φ hF hR => ?_)
  have hM := hM.g
  have g1 := hG.2.1
  have hv4 := hv.2
  refine j_iload_n hF dX8_process_0 rfl (j_callS hF (c_X8_isWorker (by omega)) ms_X8_isWorker mt_X8_isWorker lk_RX8_111 dX8_process_1 rfl rfl rfl (by simp [Value.category]) ⟨⟨(Nat.le_of_ble_eq_true rfl), (Nat.le_of_ble_eq_true rfl)⟩, by omega, by omega⟩ (fun v1 X1 hp1 hE1 => ?_))
  obtain ⟨rfl, he1⟩ := hp1; obtain rfl := he1.symm
  refine j_b_eq hF 41 dX8_process_4 (by decide) (fun c4 => ?_) (fun c4 => ?_)
  ·
    refine j_aload_n hF dX8_process_41 rfl (j_bipush hF dX8_process_42 (by decide) (j_callV hF (c_X8_fails hM.1 (by omega) hE) ms_X8_fails mv_X8_fails lk_RX8_52 dX8_process_44 hM.1.1 rfl rfl rfl (by simp [Value.category]) ⟨⟨(Nat.le_of_ble_eq_true rfl), (Nat.le_of_ble_eq_true rfl)⟩, by omega, by omega⟩ (fun v2 X2 hp2 hE2 => ?_)))
    obtain ⟨rfl, hM1⟩ := hp2
    have hM := hM.tr hM1
    refine j_iret hF hR dX8_process_47 (by omega) (by omega) ?_
    refine PU ?_ (MX.of hM)
    unfold sp_process
    first | exact (pif_t ⟨⟨⟨⟨c4, c12⟩, c20⟩, c30⟩, c38⟩).trans ((pif_f (fun h => h.elim c73 (fun g => g c83))).trans (pif_t (Or.inl c100))) | exact (pif_t ⟨⟨⟨⟨c4, c12⟩, c20⟩, c30⟩, c38⟩).trans ((pif_f (fun h => h.elim c73 (fun g => g c83))).trans (pif_t (Or.inr ⟨c106, c121⟩))) | exact (pif_t ⟨⟨⟨⟨c4, c12⟩, c20⟩, c30⟩, c38⟩).trans (pif_t (Or.inl c73)) | exact (pif_t ⟨⟨⟨⟨c4, c12⟩, c20⟩, c30⟩, c38⟩).trans (pif_t (Or.inr c83)) | exact pif_f (fun h => c4 h.1.1.1.1) | exact pif_f (fun h => c12 h.1.1.1.2) | exact pif_f (fun h => c20 h.1.1.2) | exact pif_f (fun h => c30 h.1.2) | exact pif_f (fun h => c38 h.2)
  ·
    refine j_aload_n hF dX8_process_7 rfl (j_iload_n hF dX8_process_8 rfl (j_callV hF (c_X8_isEdge hM.1 hG (by omega)) ms_X8_isEdge mv_X8_isEdge lk_RX8_77 dX8_process_9 hM.1.1 rfl rfl rfl (by simp [Value.category]) ⟨⟨(Nat.le_of_ble_eq_true rfl), (Nat.le_of_ble_eq_true rfl)⟩, by omega, by omega⟩ (fun v3 X3 hp3 hE3 => ?_)))
    obtain ⟨rfl, he3⟩ := hp3; obtain rfl := he3.symm
    refine j_b_eq hF 41 dX8_process_12 (by decide) (fun c12 => ?_) (fun c12 => ?_)
    ·
      refine j_aload_n hF dX8_process_41 rfl (j_bipush hF dX8_process_42 (by decide) (j_callV hF (c_X8_fails hM.1 (by omega) hE) ms_X8_fails mv_X8_fails lk_RX8_52 dX8_process_44 hM.1.1 rfl rfl rfl (by simp [Value.category]) ⟨⟨(Nat.le_of_ble_eq_true rfl), (Nat.le_of_ble_eq_true rfl)⟩, by omega, by omega⟩ (fun v4 X4 hp4 hE4 => ?_)))
      obtain ⟨rfl, hM1⟩ := hp4
      have hM := hM.tr hM1
      refine j_iret hF hR dX8_process_47 (by omega) (by omega) ?_
      refine PU ?_ (MX.of hM)
      unfold sp_process
      first | exact (pif_t ⟨⟨⟨⟨c4, c12⟩, c20⟩, c30⟩, c38⟩).trans ((pif_f (fun h => h.elim c73 (fun g => g c83))).trans (pif_t (Or.inl c100))) | exact (pif_t ⟨⟨⟨⟨c4, c12⟩, c20⟩, c30⟩, c38⟩).trans ((pif_f (fun h => h.elim c73 (fun g => g c83))).trans (pif_t (Or.inr ⟨c106, c121⟩))) | exact (pif_t ⟨⟨⟨⟨c4, c12⟩, c20⟩, c30⟩, c38⟩).trans (pif_t (Or.inl c73)) | exact (pif_t ⟨⟨⟨⟨c4, c12⟩, c20⟩, c30⟩, c38⟩).trans (pif_t (Or.inr c83)) | exact pif_f (fun h => c4 h.1.1.1.1) | exact pif_f (fun h => c12 h.1.1.1.2) | exact pif_f (fun h => c20 h.1.1.2) | exact pif_f (fun h => c30 h.1.2) | exact pif_f (fun h => c38 h.2)
    ·
      refine j_iload hF dX8_process_15 rfl (j_callS hF (c_X8_isWorker (by omega)) ms_X8_isWorker mt_X8_isWorker lk_RX8_111 dX8_process_17 rfl rfl rfl (by simp [Value.category]) ⟨⟨(Nat.le_of_ble_eq_true rfl), (Nat.le_of_ble_eq_true rfl)⟩, by omega, by omega⟩ (fun v5 X5 hp5 hE5 => ?_))
      obtain ⟨rfl, he5⟩ := hp5; obtain rfl := he5.symm
      refine j_b_eq hF 41 dX8_process_20 (by decide) (fun c20 => ?_) (fun c20 => ?_)
      ·
        refine j_aload_n hF dX8_process_41 rfl (j_bipush hF dX8_process_42 (by decide) (j_callV hF (c_X8_fails hM.1 (by omega) hE) ms_X8_fails mv_X8_fails lk_RX8_52 dX8_process_44 hM.1.1 rfl rfl rfl (by simp [Value.category]) ⟨⟨(Nat.le_of_ble_eq_true rfl), (Nat.le_of_ble_eq_true rfl)⟩, by omega, by omega⟩ (fun v6 X6 hp6 hE6 => ?_)))
        obtain ⟨rfl, hM1⟩ := hp6
        have hM := hM.tr hM1
        refine j_iret hF hR dX8_process_47 (by omega) (by omega) ?_
        refine PU ?_ (MX.of hM)
        unfold sp_process
        first | exact (pif_t ⟨⟨⟨⟨c4, c12⟩, c20⟩, c30⟩, c38⟩).trans ((pif_f (fun h => h.elim c73 (fun g => g c83))).trans (pif_t (Or.inl c100))) | exact (pif_t ⟨⟨⟨⟨c4, c12⟩, c20⟩, c30⟩, c38⟩).trans ((pif_f (fun h => h.elim c73 (fun g => g c83))).trans (pif_t (Or.inr ⟨c106, c121⟩))) | exact (pif_t ⟨⟨⟨⟨c4, c12⟩, c20⟩, c30⟩, c38⟩).trans (pif_t (Or.inl c73)) | exact (pif_t ⟨⟨⟨⟨c4, c12⟩, c20⟩, c30⟩, c38⟩).trans (pif_t (Or.inr c83)) | exact pif_f (fun h => c4 h.1.1.1.1) | exact pif_f (fun h => c12 h.1.1.1.2) | exact pif_f (fun h => c20 h.1.1.2) | exact pif_f (fun h => c30 h.1.2) | exact pif_f (fun h => c38 h.2)
      ·
        refine j_iload hF dX8_process_23 rfl (j_iconst hF dX8_process_25 (j_iconst hF dX8_process_26 (j_callS hF (c_X8_within (by omega)) ms_X8_within mt_X8_within lk_RX8_43 dX8_process_27 rfl rfl rfl (by simp [Value.category]) ⟨⟨(Nat.le_of_ble_eq_true rfl), (Nat.le_of_ble_eq_true rfl)⟩, by omega, by omega⟩ (fun v7 X7 hp7 hE7 => ?_))))
        obtain ⟨rfl, he7⟩ := hp7; obtain rfl := he7.symm
        refine j_b_eq hF 41 dX8_process_30 (by decide) (fun c30 => ?_) (fun c30 => ?_)
        ·
          refine j_aload_n hF dX8_process_41 rfl (j_bipush hF dX8_process_42 (by decide) (j_callV hF (c_X8_fails hM.1 (by omega) hE) ms_X8_fails mv_X8_fails lk_RX8_52 dX8_process_44 hM.1.1 rfl rfl rfl (by simp [Value.category]) ⟨⟨(Nat.le_of_ble_eq_true rfl), (Nat.le_of_ble_eq_true rfl)⟩, by omega, by omega⟩ (fun v8 X8 hp8 hE8 => ?_)))
          obtain ⟨rfl, hM1⟩ := hp8
          have hM := hM.tr hM1
          refine j_iret hF hR dX8_process_47 (by omega) (by omega) ?_
          refine PU ?_ (MX.of hM)
          unfold sp_process
          first | exact (pif_t ⟨⟨⟨⟨c4, c12⟩, c20⟩, c30⟩, c38⟩).trans ((pif_f (fun h => h.elim c73 (fun g => g c83))).trans (pif_t (Or.inl c100))) | exact (pif_t ⟨⟨⟨⟨c4, c12⟩, c20⟩, c30⟩, c38⟩).trans ((pif_f (fun h => h.elim c73 (fun g => g c83))).trans (pif_t (Or.inr ⟨c106, c121⟩))) | exact (pif_t ⟨⟨⟨⟨c4, c12⟩, c20⟩, c30⟩, c38⟩).trans (pif_t (Or.inl c73)) | exact (pif_t ⟨⟨⟨⟨c4, c12⟩, c20⟩, c30⟩, c38⟩).trans (pif_t (Or.inr c83)) | exact pif_f (fun h => c4 h.1.1.1.1) | exact pif_f (fun h => c12 h.1.1.1.2) | exact pif_f (fun h => c20 h.1.1.2) | exact pif_f (fun h => c30 h.1.2) | exact pif_f (fun h => c38 h.2)
        ·
          refine j_aload_n hF dX8_process_33 rfl (j_iload_n hF dX8_process_34 rfl (j_callV hF (c_X8_areEdges hM.1 hG (by omega)) ms_X8_areEdges mv_X8_areEdges lk_RX8_131 dX8_process_35 hM.1.1 rfl rfl rfl (by simp [Value.category]) ⟨⟨(Nat.le_of_ble_eq_true rfl), (Nat.le_of_ble_eq_true rfl)⟩, by omega, by omega⟩ (fun v9 X9 hp9 hE9 => ?_)))
          obtain ⟨rfl, he9⟩ := hp9; obtain rfl := he9.symm
          refine j_b_ne hF 48 dX8_process_38 (by decide) (fun c38 => ?_) (fun c38 => ?_)
          ·
            obtain ⟨-, ⟨e3, e4⟩, -⟩ := hG.ed e c12.1 (by omega)
            have m0 := hm (10 * w + e) (by omega) (by omega)
            have t0 := hmt (12 * (10 * w + e)) (by omega) (by omega)
            rw [show (67 : Int) + 12 * (10 * w + e) = 67 + 12 * (10 * w + e) from rfl] at t0
            have pw1 := (pw_shl g1.1 g1.2).2
            have a0 := hA w c4.1 (by omega)
            refine j_aload_n hF dX8_process_48 rfl (j_get hF hM.1.1 fl_RX8_8 dX8_process_49 rfl (j_bipush hF dX8_process_52 (by decide) (j_iload_n hF dX8_process_54 rfl (j_iadd hF dX8_process_55 (j_iald hF hM.1.2.1 dX8_process_56 (by omega) (fun ra10 rb10 => ?_))))))
            refine j_istore hF dX8_process_57 (Nat.le_of_ble_eq_true rfl) rfl (j_aload_n hF dX8_process_59 rfl (j_get hF hM.1.1 fl_RX8_8 dX8_process_60 rfl (j_bipush hF dX8_process_63 (by decide) (j_aload_n hF dX8_process_65 rfl (j_iload_n hF dX8_process_66 rfl ?_)))))
            refine j_iload_n hF dX8_process_67 rfl (j_callV hF (c_X8_lineOf hM.1) ms_X8_lineOf mv_X8_lineOf lk_RX8_108 dX8_process_68 hM.1.1 rfl rfl rfl (by simp [Value.category]) ⟨⟨(Nat.le_of_ble_eq_true rfl), (Nat.le_of_ble_eq_true rfl)⟩, by omega, by omega⟩ (fun v11 X11 hp11 hE11 => ?_))
            obtain ⟨rfl, he11⟩ := hp11; obtain rfl := he11.symm
            refine j_iadd hF dX8_process_71 (j_iald hF hM.1.2.1 dX8_process_72 (by omega) (fun ra12 rb12 => ?_))
            refine j_if_eq hF 86 dX8_process_73 (by decide) (by omega) (fun c73 => ?_) (fun c73 => ?_)
            ·
              refine j_aload_n hF dX8_process_86 rfl (j_bipush hF dX8_process_87 (by decide) (j_callV hF (c_X8_fails hM.1 (by omega) hE) ms_X8_fails mv_X8_fails lk_RX8_52 dX8_process_89 hM.1.1 rfl rfl rfl (by simp [Value.category]) ⟨⟨(Nat.le_of_ble_eq_true rfl), (Nat.le_of_ble_eq_true rfl)⟩, by omega, by omega⟩ (fun v13 X13 hp13 hE13 => ?_)))
              obtain ⟨rfl, hM1⟩ := hp13
              have hM := hM.tr hM1
              refine j_iret hF hR dX8_process_92 (by omega) (by omega) ?_
              refine PU ?_ (MX.of hM)
              unfold sp_process
              first | exact (pif_t ⟨⟨⟨⟨c4, c12⟩, c20⟩, c30⟩, c38⟩).trans ((pif_f (fun h => h.elim c73 (fun g => g c83))).trans (pif_t (Or.inl c100))) | exact (pif_t ⟨⟨⟨⟨c4, c12⟩, c20⟩, c30⟩, c38⟩).trans ((pif_f (fun h => h.elim c73 (fun g => g c83))).trans (pif_t (Or.inr ⟨c106, c121⟩))) | exact (pif_t ⟨⟨⟨⟨c4, c12⟩, c20⟩, c30⟩, c38⟩).trans (pif_t (Or.inl c73)) | exact (pif_t ⟨⟨⟨⟨c4, c12⟩, c20⟩, c30⟩, c38⟩).trans (pif_t (Or.inr c83)) | exact pif_f (fun h => c4 h.1.1.1.1) | exact pif_f (fun h => c12 h.1.1.1.2) | exact pif_f (fun h => c20 h.1.1.2) | exact pif_f (fun h => c30 h.1.2) | exact pif_f (fun h => c38 h.2)
            ·
              refine j_aload_n hF dX8_process_76 rfl (j_iload_n hF dX8_process_77 rfl (j_iload hF dX8_process_78 rfl (j_callV hF (c_X8_startAt hM.1 hG (by omega) (by omega)) ms_X8_startAt mv_X8_startAt lk_RX8_134 dX8_process_80 hM.1.1 rfl rfl rfl (by simp [Value.category]) ⟨⟨(Nat.le_of_ble_eq_true rfl), (Nat.le_of_ble_eq_true rfl)⟩, by omega, by omega⟩ (fun v14 X14 hp14 hE14 => ?_))))
              obtain ⟨rfl, he14⟩ := hp14; obtain rfl := he14.symm
              refine j_b_ne hF 93 dX8_process_83 (by decide) (fun c83 => ?_) (fun c83 => ?_)
              ·
                refine j_aload_n hF dX8_process_93 rfl (j_iload_n hF dX8_process_94 rfl (j_iload hF dX8_process_95 rfl (j_callV hF (c_X8_isOneFull hM.1 hG (by omega) (by omega)) ms_X8_isOneFull mv_X8_isOneFull lk_RX8_137 dX8_process_97 hM.1.1 rfl rfl rfl (by simp [Value.category]) ⟨⟨(Nat.le_of_ble_eq_true rfl), (Nat.le_of_ble_eq_true rfl)⟩, by omega, by omega⟩ (fun v15 X15 hp15 hE15 => ?_))))
                obtain ⟨rfl, he15⟩ := hp15; obtain rfl := he15.symm
                refine j_b_ne hF 124 dX8_process_100 (by decide) (fun c100 => ?_) (fun c100 => ?_)
                ·
                  refine j_aload_n hF dX8_process_124 rfl (j_bipush hF dX8_process_125 (by decide) (j_callV hF (c_X8_fails hM.1 (by omega) hE) ms_X8_fails mv_X8_fails lk_RX8_52 dX8_process_127 hM.1.1 rfl rfl rfl (by simp [Value.category]) ⟨⟨(Nat.le_of_ble_eq_true rfl), (Nat.le_of_ble_eq_true rfl)⟩, by omega, by omega⟩ (fun v16 X16 hp16 hE16 => ?_)))
                  obtain ⟨rfl, hM1⟩ := hp16
                  have hM := hM.tr hM1
                  refine j_iret hF hR dX8_process_130 (by omega) (by omega) ?_
                  refine PU ?_ (MX.of hM)
                  unfold sp_process
                  first | exact (pif_t ⟨⟨⟨⟨c4, c12⟩, c20⟩, c30⟩, c38⟩).trans ((pif_f (fun h => h.elim c73 (fun g => g c83))).trans (pif_t (Or.inl c100))) | exact (pif_t ⟨⟨⟨⟨c4, c12⟩, c20⟩, c30⟩, c38⟩).trans ((pif_f (fun h => h.elim c73 (fun g => g c83))).trans (pif_t (Or.inr ⟨c106, c121⟩))) | exact (pif_t ⟨⟨⟨⟨c4, c12⟩, c20⟩, c30⟩, c38⟩).trans (pif_t (Or.inl c73)) | exact (pif_t ⟨⟨⟨⟨c4, c12⟩, c20⟩, c30⟩, c38⟩).trans (pif_t (Or.inr c83)) | exact pif_f (fun h => c4 h.1.1.1.1) | exact pif_f (fun h => c12 h.1.1.1.2) | exact pif_f (fun h => c20 h.1.1.2) | exact pif_f (fun h => c30 h.1.2) | exact pif_f (fun h => c38 h.2)
                ·
                  have J131 : ¬ (BE (fun x => hb o x ∧ r (47 + (10 * tg + x)) = 12) (r 1) ∨ (q = 1 ∧ r (307 + w) = 12)) → Jd φ X 0 0 131 [some (.ref (ad 0)), some (vi w), some (vi e), some (vi o), some (vi tg), some (vi q), some (vi (r (27 + e))), none, none, none] [] := by
                    intro hc4
                    refine j_aload_n hF dX8_process_131 rfl (j_callV hF (c_X8_saves hM.1 (by omega)) ms_X8_saves mv_X8_saves lk_RX8_56 dX8_process_132 hM.1.1 rfl rfl rfl (by simp [Value.category]) ⟨⟨(Nat.le_of_ble_eq_true rfl), (Nat.le_of_ble_eq_true rfl)⟩, by omega, by omega⟩ (fun v1 X1 hp1 hE1 => ?_))
                    obtain ⟨rfl, hM1⟩ := hp1
                    have hM := hM.tr hM1
                    refine j_aload_n hF dX8_process_135 rfl (j_aload_n hF dX8_process_136 rfl (j_iload_n hF dX8_process_137 rfl (j_iload_n hF dX8_process_138 rfl (j_callV hF (c_X8_lineOf hM.1) ms_X8_lineOf mv_X8_lineOf lk_RX8_108 dX8_process_139 hM.1.1 rfl rfl rfl (by simp [Value.category]) ⟨⟨(Nat.le_of_ble_eq_true rfl), (Nat.le_of_ble_eq_true rfl)⟩, by omega, by omega⟩ (fun v2 X2 hp2 hE2 => ?_)))))
                    obtain ⟨rfl, he2⟩ := hp2; obtain rfl := he2.symm
                    refine j_callV hF (c_X8_takes hM.1 (by omega) (by omega)) ms_X8_takes mv_X8_takes lk_RX8_140 dX8_process_142 hM.1.1 rfl rfl rfl (by simp [Value.category]) ⟨⟨(Nat.le_of_ble_eq_true rfl), (Nat.le_of_ble_eq_true rfl)⟩, by omega, by omega⟩ (fun v3 X3 hp3 hE3 => ?_)
                    obtain ⟨rfl, hM1⟩ := hp3
                    have hM := hM.tr hM1
                    obtain ⟨r1, hr1⟩ : ∃ z, z = m_take r (10 * w + e) := ⟨_, rfl⟩
                    rw [← hr1] at hM
                    have n1 : ∀ i, i ≠ 47 + (10 * w + e) → (i < 67 ∨ 306 < i) → r1 i = r i := fun i a b => by rw [hr1, m_take_n (by omega) a (by omega)]
                    have n2 : r1 (47 + (10 * w + e)) = r (47 + (10 * w + e)) - 1 := by rw [hr1, m_take_c (by omega)]
                    have hG1 : GI r1 := hG.eq (fun i _ _ _ _ _ _ => n1 i (by omega) (by omega))
                    have hI1 : RI r1 N := hI.eq (fun i _ _ _ => n1 i (by omega) (by omega))
                    have hm1 : RM2 r1 := by rw [hr1]; exact hm.take (by omega) (by omega)
                    have v4 : r1 4 = r 4 := n1 4 (by omega) (by omega)
                    have v1 : r1 1 = r 1 := n1 1 (by omega) (by omega)
                    have vw : r1 (307 + w) = r (307 + w) := n1 _ (by omega) (by omega)
                    refine j_istore hF dX8_process_145 (Nat.le_of_ble_eq_true rfl) rfl (j_aload_n hF dX8_process_147 rfl (j_iload_n hF dX8_process_148 rfl (j_iload hF dX8_process_149 rfl (j_callV hF (c_X8_moved hM.1 hG1 (by omega) (by omega)) ms_X8_moved mv_X8_moved lk_RX8_90 dX8_process_151 hM.1.1 rfl rfl rfl (by simp [Value.category]) ⟨⟨(Nat.le_of_ble_eq_true rfl), (Nat.le_of_ble_eq_true rfl)⟩, by omega, by omega⟩ (fun v4 X4 hp4 hE4 => ?_)))))
                    obtain ⟨rfl, he4⟩ := hp4; obtain rfl := he4.symm
                    have mr := mv_rg2 (r := r1) (e := e) (t := r (67 + 12 * (10 * w + e))) (by omega)
                    obtain ⟨t, et⟩ : ∃ z, z = m_moved r1 e (r (67 + 12 * (10 * w + e))) := ⟨_, rfl⟩
                    rw [← et] at mr ⊢
                    refine j_istore hF dX8_process_154 (Nat.le_of_ble_eq_true rfl) rfl (j_iload hF dX8_process_156 rfl (j_iconst hF dX8_process_158 (j_icmp_eq hF 270 dX8_process_159 (by decide) (by omega) (fun c159 => ?_) (fun c159 => ?_))))
                    ·
                      refine j_aload_n hF dX8_process_270 rfl (j_iload_n hF dX8_process_271 rfl (j_bipush hF dX8_process_272 (by decide) (j_iload_n hF dX8_process_274 rfl (j_iadd hF dX8_process_275 (j_iload hF dX8_process_276 rfl ?_)))))
                      refine j_iconst hF dX8_process_278 (j_callV hF (c_X8_updates (N := N) hM.1 (by omega) (by omega) (by omega) (by omega) (by omega) hI1) ms_X8_updates mv_X8_updates lk_RX8_121 dX8_process_279 hM.1.1 rfl rfl rfl (by simp [Value.category]) ⟨⟨(Nat.le_of_ble_eq_true rfl), (Nat.le_of_ble_eq_true rfl)⟩, by omega, by omega⟩ (fun v5 X5 hp5 hE5 => ?_))
                      obtain ⟨rfl, hM1⟩ := hp5
                      have hM := hM.tr hM1
                      refine j_iload hF dX8_process_282 rfl (j_iret hF hR dX8_process_284 (by omega) (by omega) ?_)
                      refine PU ?_ (MX.of hM)
                      unfold sp_process
                      refine (pif_t ⟨⟨⟨⟨c4, c12⟩, c20⟩, c30⟩, c38⟩).trans ((pif_f (fun h => h.elim c73 (fun g => g c83))).trans ((pif_f hc4).trans ?_))
                      subst et
                      subst hr1
                      dsimp only [sp_new]
                      unfold m_proc
                      first | rw [if_pos c159] | (rw [if_neg c159]; unfold m_proc1 m_ask m_rq; first | (rw [if_pos c200, bz_t cv]) | (rw [if_neg c200, bz_t cv]) | (rw [if_pos c200, bz_f cv, Int.add_zero]) | (rw [if_neg c200, bz_f cv, Int.add_zero]))
                    ·
                      refine j_aload_n hF dX8_process_162 rfl (j_get hF hM.1.1 fl_RX8_8 dX8_process_163 rfl (j_iconst hF dX8_process_166 (j_dup2 hF dX8_process_167 rfl rfl (j_iald hF hM.1.2.1 dX8_process_168 (by omega) (fun ra6 rb6 => ?_)))))
                      refine j_aload_n hF dX8_process_169 rfl (j_iload hF dX8_process_170 rfl (j_iload hF dX8_process_172 rfl (j_callV hF (c_X8_violates hM.1 (by omega) (by omega)) ms_X8_violates mv_X8_violates lk_RX8_143 dX8_process_174 hM.1.1 rfl rfl rfl (by simp [Value.category]) ⟨⟨(Nat.le_of_ble_eq_true rfl), (Nat.le_of_ble_eq_true rfl)⟩, by omega, by omega⟩ (fun v7 X7 hp7 hE7 => ?_))))
                      obtain ⟨rfl, he7⟩ := hp7; obtain rfl := he7.symm
                      refine j_b_eq hF 184 dX8_process_177 (by decide) (fun c177 => ?_) (fun c177 => ?_)
                      ·
                        have cv : ¬ m_vio r1 (r (27 + e)) t := c177
                        refine j_iconst hF dX8_process_184 (j_iadd hF dX8_process_185 (j_iast hF hM.1.2.1 dX8_process_186 (by omega) (by omega) (j_nm (fun X8 eX8 => ?_))))
                        have hM := hM.u_r eX8
                        have key : ∀ V : Int, GI (fu r1 4 V) ∧ RI (fu r1 4 V) N ∧ RM2 (fu r1 4 V) ∧ (fu r1 4 V) 1 = r 1 ∧ (∀ x, 0 ≤ x → x < (fu r1 4 V) 1 → hb o x → (fu r1 4 V) (47 + (10 * tg + x)) < 12) ∧ (fu r1 4 V) (307 + w) = r (307 + w) := fun V => ⟨hG1.eq (fun i _ _ _ _ h _ => fu_n h), RI.fu hI1 (by omega), hm1.fu4 (by omega), by rw [fu_n (by omega), v1], fun x x1 x2 x3 => by
                            rw [fu_n (show (1 : Int) ≠ 4 by omega), v1] at x2
                            rw [fu_n (by omega)]
                            have f1 := hm (10 * tg + x) (by omega) (by omega)
                            have f2 : ¬ r (47 + (10 * tg + x)) = 12 := fun g => c100 ⟨x, x1, x2, x3, g⟩
                            by_cases hx : 47 + (10 * tg + x) = 47 + (10 * w + e)
                            · rw [hx, n2]; omega
                            · rw [n1 _ hx (by omega)]; omega, by rw [fu_n (by omega), vw]⟩
                        refine j_aload_n hF dX8_process_187 rfl (j_iload_n hF dX8_process_188 rfl (j_iload_n hF dX8_process_189 rfl (j_iload hF dX8_process_190 rfl (j_iload hF dX8_process_192 rfl (j_callV hF (c_X8_putsAll (N := N) hM.1 (key _).1 (key _).2.1 (key _).2.2.1 (by omega) (by omega) (by omega) (by omega) (by omega) (key _).2.2.2.2.1) ms_X8_putsAll mv_X8_putsAll lk_RX8_146 dX8_process_194 hM.1.1 rfl rfl rfl (by simp [Value.category]) ⟨⟨(Nat.le_of_ble_eq_true rfl), (Nat.le_of_ble_eq_true rfl)⟩, by omega, by omega⟩ (fun v9 X9 hp9 hE9 => ?_))))))
                        obtain ⟨rfl, hM1⟩ := hp9
                        have hM := hM.tr hM1
                        have key2 := fun V => m_pa_inv (w := w) (o := o) (tg := tg) (t := t) (E := (fu r1 4 V) 1) (key V).2.1 (key V).2.2.1 (by omega) (by omega) (by omega) (by omega) (by have := (key V).2.2.2.1; omega) (key V).2.2.2.2.1 ((fu r1 4 V) 1).toNat (by have := (key V).2.2.2.1; omega)
                        have kN : ∀ V : Int, (((fu r1 4 V) 1).toNat : Int) ≤ 10 := fun V => by have := (key V).2.2.2.1; omega
                        have key3 : ∀ V : Int, RI (m_pa w o tg t ((fu r1 4 V) 1).toNat (fu r1 4 V)) (N + 10) := fun V => (key2 V).1.mono (by have := kN V; omega)
                        have kW : ∀ V : Int, m_pa w o tg t ((fu r1 4 V) 1).toNat (fu r1 4 V) (307 + w) = r (307 + w) := fun V => by rw [(key2 V).2.1 _ (by omega) (by omega)]; exact (key V).2.2.2.2.2
                        refine j_iload hF dX8_process_197 rfl (j_iconst hF dX8_process_199 (j_icmp_ne hF 270 dX8_process_200 (by decide) (by omega) (fun c200 => ?_) (fun c200 => ?_)))
                        ·
                          refine j_aload_n hF dX8_process_270 rfl (j_iload_n hF dX8_process_271 rfl (j_bipush hF dX8_process_272 (by decide) (j_iload_n hF dX8_process_274 rfl (j_iadd hF dX8_process_275 (j_iload hF dX8_process_276 rfl ?_)))))
                          refine j_iconst hF dX8_process_278 (j_callV hF (c_X8_updates (N := N + 10) hM.1 (by omega) (by omega) (by omega) (by omega) (by omega) (key3 _)) ms_X8_updates mv_X8_updates lk_RX8_121 dX8_process_279 hM.1.1 rfl rfl rfl (by simp [Value.category]) ⟨⟨(Nat.le_of_ble_eq_true rfl), (Nat.le_of_ble_eq_true rfl)⟩, by omega, by omega⟩ (fun v10 X10 hp10 hE10 => ?_))
                          obtain ⟨rfl, hM1⟩ := hp10
                          have hM := hM.tr hM1
                          refine j_iload hF dX8_process_282 rfl (j_iret hF hR dX8_process_284 (by omega) (by omega) ?_)
                          refine PU ?_ (MX.of hM)
                          unfold sp_process
                          refine (pif_t ⟨⟨⟨⟨c4, c12⟩, c20⟩, c30⟩, c38⟩).trans ((pif_f (fun h => h.elim c73 (fun g => g c83))).trans ((pif_f hc4).trans ?_))
                          subst et
                          subst hr1
                          dsimp only [sp_new]
                          unfold m_proc
                          first | rw [if_pos c159] | (rw [if_neg c159]; unfold m_proc1 m_ask m_rq; first | (rw [if_pos c200, bz_t cv]) | (rw [if_neg c200, bz_t cv]) | (rw [if_pos c200, bz_f cv, Int.add_zero]) | (rw [if_neg c200, bz_f cv, Int.add_zero]))
                        ·
                          refine j_bipush hF dX8_process_203 (by decide) (j_iload_n hF dX8_process_205 rfl (j_imul hF dX8_process_206 (j_aload_n hF dX8_process_207 rfl (j_get hF hM.1.1 fl_RX8_8 dX8_process_208 rfl (j_sipush hF dX8_process_211 (by decide) ?_)))))
                          refine j_iload_n hF dX8_process_214 rfl (j_iadd hF dX8_process_215 (j_iald hF hM.1.2.1 dX8_process_216 (by omega) (fun ra11 rb11 => ?_)))
                          have kw0 := kW (r1 4 + 0)
                          have kw1 := kW (r1 4 + 1)
                          have kR : ∀ V : Int, RI (fu (m_rq (m_pa w o tg t ((fu r1 4 V) 1).toNat (fu r1 4 V)) w (r (27 + e)) t) (307 + w) (m_rq (m_pa w o tg t ((fu r1 4 V) 1).toNat (fu r1 4 V)) w (r (27 + e)) t (307 + w) + 1)) (N + 10) := fun V => (key3 V).eq (fun i _ _ _ => by have := kW V; unfold m_rq; rw [fu_n (by omega), fu_n (by omega), fu_n (by omega)])
                          refine j_iadd hF dX8_process_217 (j_istore hF dX8_process_218 (Nat.le_of_ble_eq_true rfl) rfl (j_aload_n hF dX8_process_220 rfl (j_get hF hM.1.1 fl_RX8_8 dX8_process_221 rfl (j_sipush hF dX8_process_224 (by decide) (j_iload hF dX8_process_227 rfl ?_)))))
                          refine j_iadd hF dX8_process_229 (j_iload hF dX8_process_230 rfl (j_iast hF hM.1.2.1 dX8_process_232 (by omega) (by omega) (j_nm (fun X12 eX12 => ?_))))
                          have hM := hM.u_r eX12
                          refine j_aload_n hF dX8_process_233 rfl (j_get hF hM.1.1 fl_RX8_8 dX8_process_234 rfl (j_sipush hF dX8_process_237 (by decide) (j_iload hF dX8_process_240 rfl (j_iadd hF dX8_process_242 (j_iload hF dX8_process_243 rfl ?_)))))
                          refine j_iast hF hM.1.2.1 dX8_process_245 (by omega) (by omega) (j_nm (fun X13 eX13 => ?_))
                          have hM := hM.u_r eX13
                          refine j_aload_n hF dX8_process_246 rfl (j_get hF hM.1.1 fl_RX8_8 dX8_process_247 rfl (j_sipush hF dX8_process_250 (by decide) (j_iload_n hF dX8_process_253 rfl (j_iadd hF dX8_process_254 (j_dup2 hF dX8_process_255 rfl rfl ?_)))))
                          refine j_iald hF hM.1.2.1 dX8_process_256 (by omega) (fun ra14 rb14 => ?_)
                          refine j_iconst hF dX8_process_257 (j_iadd hF dX8_process_258 (j_iast hF hM.1.2.1 dX8_process_259 (by omega) (by rw [fu_n (by omega), fu_n (by omega)]; omega) (j_nm (fun X15 eX15 => ?_))))
                          have hM := hM.u_r eX15
                          refine j_aload_n hF dX8_process_260 rfl (j_iload_n hF dX8_process_261 rfl (j_iload hF dX8_process_262 rfl (j_iload hF dX8_process_264 rfl (j_iconst hF dX8_process_266 (j_callV hF (c_X8_updates (N := N + 10) hM.1 (by omega) (by omega) (by omega) (by omega) (by omega) (kR _)) ms_X8_updates mv_X8_updates lk_RX8_121 dX8_process_267 hM.1.1 rfl rfl rfl (by simp [Value.category]) ⟨⟨(Nat.le_of_ble_eq_true rfl), (Nat.le_of_ble_eq_true rfl)⟩, by omega, by omega⟩ (fun v16 X16 hp16 hE16 => ?_))))))
                          obtain ⟨rfl, hM1⟩ := hp16
                          have hM := hM.tr hM1
                          refine j_aload_n hF dX8_process_270 rfl (j_iload_n hF dX8_process_271 rfl (j_bipush hF dX8_process_272 (by decide) (j_iload_n hF dX8_process_274 rfl (j_iadd hF dX8_process_275 (j_iload hF dX8_process_276 rfl ?_)))))
                          refine j_iconst hF dX8_process_278 (j_callV hF (c_X8_updates (N := N + 10 + 1) hM.1 (by omega) (by omega) (by omega) (by omega) (by omega) ((kR _).up (by omega) (by omega) (by omega) (by omega) (by omega))) ms_X8_updates mv_X8_updates lk_RX8_121 dX8_process_279 hM.1.1 rfl rfl rfl (by simp [Value.category]) ⟨⟨(Nat.le_of_ble_eq_true rfl), (Nat.le_of_ble_eq_true rfl)⟩, by omega, by omega⟩ (fun v17 X17 hp17 hE17 => ?_))
                          obtain ⟨rfl, hM1⟩ := hp17
                          have hM := hM.tr hM1
                          refine j_iload hF dX8_process_282 rfl (j_iret hF hR dX8_process_284 (by omega) (by omega) ?_)
                          refine PU ?_ (MX.of hM)
                          unfold sp_process
                          refine (pif_t ⟨⟨⟨⟨c4, c12⟩, c20⟩, c30⟩, c38⟩).trans ((pif_f (fun h => h.elim c73 (fun g => g c83))).trans ((pif_f hc4).trans ?_))
                          subst et
                          subst hr1
                          dsimp only [sp_new]
                          unfold m_proc
                          first | rw [if_pos c159] | (rw [if_neg c159]; unfold m_proc1 m_ask m_rq; first | (rw [if_pos c200, bz_t cv]) | (rw [if_neg c200, bz_t cv]) | (rw [if_pos c200, bz_f cv, Int.add_zero]) | (rw [if_neg c200, bz_f cv, Int.add_zero]))
                      ·
                        have cv : m_vio r1 (r (27 + e)) t := c177
                        refine j_iconst hF dX8_process_180 (j_goto hF 185 dX8_process_181 (by decide) (j_iadd hF dX8_process_185 (j_iast hF hM.1.2.1 dX8_process_186 (by omega) (by omega) (j_nm (fun X18 eX18 => ?_)))))
                        have hM := hM.u_r eX18
                        have key : ∀ V : Int, GI (fu r1 4 V) ∧ RI (fu r1 4 V) N ∧ RM2 (fu r1 4 V) ∧ (fu r1 4 V) 1 = r 1 ∧ (∀ x, 0 ≤ x → x < (fu r1 4 V) 1 → hb o x → (fu r1 4 V) (47 + (10 * tg + x)) < 12) ∧ (fu r1 4 V) (307 + w) = r (307 + w) := fun V => ⟨hG1.eq (fun i _ _ _ _ h _ => fu_n h), RI.fu hI1 (by omega), hm1.fu4 (by omega), by rw [fu_n (by omega), v1], fun x x1 x2 x3 => by
                            rw [fu_n (show (1 : Int) ≠ 4 by omega), v1] at x2
                            rw [fu_n (by omega)]
                            have f1 := hm (10 * tg + x) (by omega) (by omega)
                            have f2 : ¬ r (47 + (10 * tg + x)) = 12 := fun g => c100 ⟨x, x1, x2, x3, g⟩
                            by_cases hx : 47 + (10 * tg + x) = 47 + (10 * w + e)
                            · rw [hx, n2]; omega
                            · rw [n1 _ hx (by omega)]; omega, by rw [fu_n (by omega), vw]⟩
                        refine j_aload_n hF dX8_process_187 rfl (j_iload_n hF dX8_process_188 rfl (j_iload_n hF dX8_process_189 rfl (j_iload hF dX8_process_190 rfl (j_iload hF dX8_process_192 rfl (j_callV hF (c_X8_putsAll (N := N) hM.1 (key _).1 (key _).2.1 (key _).2.2.1 (by omega) (by omega) (by omega) (by omega) (by omega) (key _).2.2.2.2.1) ms_X8_putsAll mv_X8_putsAll lk_RX8_146 dX8_process_194 hM.1.1 rfl rfl rfl (by simp [Value.category]) ⟨⟨(Nat.le_of_ble_eq_true rfl), (Nat.le_of_ble_eq_true rfl)⟩, by omega, by omega⟩ (fun v19 X19 hp19 hE19 => ?_))))))
                        obtain ⟨rfl, hM1⟩ := hp19
                        have hM := hM.tr hM1
                        have key2 := fun V => m_pa_inv (w := w) (o := o) (tg := tg) (t := t) (E := (fu r1 4 V) 1) (key V).2.1 (key V).2.2.1 (by omega) (by omega) (by omega) (by omega) (by have := (key V).2.2.2.1; omega) (key V).2.2.2.2.1 ((fu r1 4 V) 1).toNat (by have := (key V).2.2.2.1; omega)
                        have kN : ∀ V : Int, (((fu r1 4 V) 1).toNat : Int) ≤ 10 := fun V => by have := (key V).2.2.2.1; omega
                        have key3 : ∀ V : Int, RI (m_pa w o tg t ((fu r1 4 V) 1).toNat (fu r1 4 V)) (N + 10) := fun V => (key2 V).1.mono (by have := kN V; omega)
                        have kW : ∀ V : Int, m_pa w o tg t ((fu r1 4 V) 1).toNat (fu r1 4 V) (307 + w) = r (307 + w) := fun V => by rw [(key2 V).2.1 _ (by omega) (by omega)]; exact (key V).2.2.2.2.2
                        refine j_iload hF dX8_process_197 rfl (j_iconst hF dX8_process_199 (j_icmp_ne hF 270 dX8_process_200 (by decide) (by omega) (fun c200 => ?_) (fun c200 => ?_)))
                        ·
                          refine j_aload_n hF dX8_process_270 rfl (j_iload_n hF dX8_process_271 rfl (j_bipush hF dX8_process_272 (by decide) (j_iload_n hF dX8_process_274 rfl (j_iadd hF dX8_process_275 (j_iload hF dX8_process_276 rfl ?_)))))
                          refine j_iconst hF dX8_process_278 (j_callV hF (c_X8_updates (N := N + 10) hM.1 (by omega) (by omega) (by omega) (by omega) (by omega) (key3 _)) ms_X8_updates mv_X8_updates lk_RX8_121 dX8_process_279 hM.1.1 rfl rfl rfl (by simp [Value.category]) ⟨⟨(Nat.le_of_ble_eq_true rfl), (Nat.le_of_ble_eq_true rfl)⟩, by omega, by omega⟩ (fun v20 X20 hp20 hE20 => ?_))
                          obtain ⟨rfl, hM1⟩ := hp20
                          have hM := hM.tr hM1
                          refine j_iload hF dX8_process_282 rfl (j_iret hF hR dX8_process_284 (by omega) (by omega) ?_)
                          refine PU ?_ (MX.of hM)
                          unfold sp_process
                          refine (pif_t ⟨⟨⟨⟨c4, c12⟩, c20⟩, c30⟩, c38⟩).trans ((pif_f (fun h => h.elim c73 (fun g => g c83))).trans ((pif_f hc4).trans ?_))
                          subst et
                          subst hr1
                          dsimp only [sp_new]
                          unfold m_proc
                          first | rw [if_pos c159] | (rw [if_neg c159]; unfold m_proc1 m_ask m_rq; first | (rw [if_pos c200, bz_t cv]) | (rw [if_neg c200, bz_t cv]) | (rw [if_pos c200, bz_f cv, Int.add_zero]) | (rw [if_neg c200, bz_f cv, Int.add_zero]))
                        ·
                          refine j_bipush hF dX8_process_203 (by decide) (j_iload_n hF dX8_process_205 rfl (j_imul hF dX8_process_206 (j_aload_n hF dX8_process_207 rfl (j_get hF hM.1.1 fl_RX8_8 dX8_process_208 rfl (j_sipush hF dX8_process_211 (by decide) ?_)))))
                          refine j_iload_n hF dX8_process_214 rfl (j_iadd hF dX8_process_215 (j_iald hF hM.1.2.1 dX8_process_216 (by omega) (fun ra21 rb21 => ?_)))
                          have kw0 := kW (r1 4 + 0)
                          have kw1 := kW (r1 4 + 1)
                          have kR : ∀ V : Int, RI (fu (m_rq (m_pa w o tg t ((fu r1 4 V) 1).toNat (fu r1 4 V)) w (r (27 + e)) t) (307 + w) (m_rq (m_pa w o tg t ((fu r1 4 V) 1).toNat (fu r1 4 V)) w (r (27 + e)) t (307 + w) + 1)) (N + 10) := fun V => (key3 V).eq (fun i _ _ _ => by have := kW V; unfold m_rq; rw [fu_n (by omega), fu_n (by omega), fu_n (by omega)])
                          refine j_iadd hF dX8_process_217 (j_istore hF dX8_process_218 (Nat.le_of_ble_eq_true rfl) rfl (j_aload_n hF dX8_process_220 rfl (j_get hF hM.1.1 fl_RX8_8 dX8_process_221 rfl (j_sipush hF dX8_process_224 (by decide) (j_iload hF dX8_process_227 rfl ?_)))))
                          refine j_iadd hF dX8_process_229 (j_iload hF dX8_process_230 rfl (j_iast hF hM.1.2.1 dX8_process_232 (by omega) (by omega) (j_nm (fun X22 eX22 => ?_))))
                          have hM := hM.u_r eX22
                          refine j_aload_n hF dX8_process_233 rfl (j_get hF hM.1.1 fl_RX8_8 dX8_process_234 rfl (j_sipush hF dX8_process_237 (by decide) (j_iload hF dX8_process_240 rfl (j_iadd hF dX8_process_242 (j_iload hF dX8_process_243 rfl ?_)))))
                          refine j_iast hF hM.1.2.1 dX8_process_245 (by omega) (by omega) (j_nm (fun X23 eX23 => ?_))
                          have hM := hM.u_r eX23
                          refine j_aload_n hF dX8_process_246 rfl (j_get hF hM.1.1 fl_RX8_8 dX8_process_247 rfl (j_sipush hF dX8_process_250 (by decide) (j_iload_n hF dX8_process_253 rfl (j_iadd hF dX8_process_254 (j_dup2 hF dX8_process_255 rfl rfl ?_)))))
                          refine j_iald hF hM.1.2.1 dX8_process_256 (by omega) (fun ra24 rb24 => ?_)
                          refine j_iconst hF dX8_process_257 (j_iadd hF dX8_process_258 (j_iast hF hM.1.2.1 dX8_process_259 (by omega) (by rw [fu_n (by omega), fu_n (by omega)]; omega) (j_nm (fun X25 eX25 => ?_))))
                          have hM := hM.u_r eX25
                          refine j_aload_n hF dX8_process_260 rfl (j_iload_n hF dX8_process_261 rfl (j_iload hF dX8_process_262 rfl (j_iload hF dX8_process_264 rfl (j_iconst hF dX8_process_266 (j_callV hF (c_X8_updates (N := N + 10) hM.1 (by omega) (by omega) (by omega) (by omega) (by omega) (kR _)) ms_X8_updates mv_X8_updates lk_RX8_121 dX8_process_267 hM.1.1 rfl rfl rfl (by simp [Value.category]) ⟨⟨(Nat.le_of_ble_eq_true rfl), (Nat.le_of_ble_eq_true rfl)⟩, by omega, by omega⟩ (fun v26 X26 hp26 hE26 => ?_))))))
                          obtain ⟨rfl, hM1⟩ := hp26
                          have hM := hM.tr hM1
                          refine j_aload_n hF dX8_process_270 rfl (j_iload_n hF dX8_process_271 rfl (j_bipush hF dX8_process_272 (by decide) (j_iload_n hF dX8_process_274 rfl (j_iadd hF dX8_process_275 (j_iload hF dX8_process_276 rfl ?_)))))
                          refine j_iconst hF dX8_process_278 (j_callV hF (c_X8_updates (N := N + 10 + 1) hM.1 (by omega) (by omega) (by omega) (by omega) (by omega) ((kR _).up (by omega) (by omega) (by omega) (by omega) (by omega))) ms_X8_updates mv_X8_updates lk_RX8_121 dX8_process_279 hM.1.1 rfl rfl rfl (by simp [Value.category]) ⟨⟨(Nat.le_of_ble_eq_true rfl), (Nat.le_of_ble_eq_true rfl)⟩, by omega, by omega⟩ (fun v27 X27 hp27 hE27 => ?_))
                          obtain ⟨rfl, hM1⟩ := hp27
                          have hM := hM.tr hM1
                          refine j_iload hF dX8_process_282 rfl (j_iret hF hR dX8_process_284 (by omega) (by omega) ?_)
                          refine PU ?_ (MX.of hM)
                          unfold sp_process
                          refine (pif_t ⟨⟨⟨⟨c4, c12⟩, c20⟩, c30⟩, c38⟩).trans ((pif_f (fun h => h.elim c73 (fun g => g c83))).trans ((pif_f hc4).trans ?_))
                          subst et
                          subst hr1
                          dsimp only [sp_new]
                          unfold m_proc
                          first | rw [if_pos c159] | (rw [if_neg c159]; unfold m_proc1 m_ask m_rq; first | (rw [if_pos c200, bz_t cv]) | (rw [if_neg c200, bz_t cv]) | (rw [if_pos c200, bz_f cv, Int.add_zero]) | (rw [if_neg c200, bz_f cv, Int.add_zero]))
                  refine j_iload hF dX8_process_103 rfl (j_iconst hF dX8_process_105 (j_icmp_ne hF 131 dX8_process_106 (by decide) (by omega) (fun c106 => ?_) (fun c106 => ?_)))
                  ·
                    first | exact J131 (fun h => h.elim c100 (fun g => c121 g.2)) | exact J131 (fun h => h.elim c100 (fun g => c106 g.1))
                  ·
                    refine j_aload_n hF dX8_process_109 rfl (j_get hF hM.1.1 fl_RX8_8 dX8_process_110 rfl (j_sipush hF dX8_process_113 (by decide) (j_iload_n hF dX8_process_116 rfl (j_iadd hF dX8_process_117 (j_iald hF hM.1.2.1 dX8_process_118 (by omega) (fun ra17 rb17 => ?_))))))
                    refine j_bipush hF dX8_process_119 (by decide) (j_icmp_ne hF 131 dX8_process_121 (by decide) (by omega) (fun c121 => ?_) (fun c121 => ?_))
                    ·
                      first | exact J131 (fun h => h.elim c100 (fun g => c121 g.2)) | exact J131 (fun h => h.elim c100 (fun g => c106 g.1))
                    ·
                      refine j_aload_n hF dX8_process_124 rfl (j_bipush hF dX8_process_125 (by decide) (j_callV hF (c_X8_fails hM.1 (by omega) hE) ms_X8_fails mv_X8_fails lk_RX8_52 dX8_process_127 hM.1.1 rfl rfl rfl (by simp [Value.category]) ⟨⟨(Nat.le_of_ble_eq_true rfl), (Nat.le_of_ble_eq_true rfl)⟩, by omega, by omega⟩ (fun v18 X18 hp18 hE18 => ?_)))
                      obtain ⟨rfl, hM1⟩ := hp18
                      have hM := hM.tr hM1
                      refine j_iret hF hR dX8_process_130 (by omega) (by omega) ?_
                      refine PU ?_ (MX.of hM)
                      unfold sp_process
                      first | exact (pif_t ⟨⟨⟨⟨c4, c12⟩, c20⟩, c30⟩, c38⟩).trans ((pif_f (fun h => h.elim c73 (fun g => g c83))).trans (pif_t (Or.inl c100))) | exact (pif_t ⟨⟨⟨⟨c4, c12⟩, c20⟩, c30⟩, c38⟩).trans ((pif_f (fun h => h.elim c73 (fun g => g c83))).trans (pif_t (Or.inr ⟨c106, c121⟩))) | exact (pif_t ⟨⟨⟨⟨c4, c12⟩, c20⟩, c30⟩, c38⟩).trans (pif_t (Or.inl c73)) | exact (pif_t ⟨⟨⟨⟨c4, c12⟩, c20⟩, c30⟩, c38⟩).trans (pif_t (Or.inr c83)) | exact pif_f (fun h => c4 h.1.1.1.1) | exact pif_f (fun h => c12 h.1.1.1.2) | exact pif_f (fun h => c20 h.1.1.2) | exact pif_f (fun h => c30 h.1.2) | exact pif_f (fun h => c38 h.2)
              ·
                refine j_aload_n hF dX8_process_86 rfl (j_bipush hF dX8_process_87 (by decide) (j_callV hF (c_X8_fails hM.1 (by omega) hE) ms_X8_fails mv_X8_fails lk_RX8_52 dX8_process_89 hM.1.1 rfl rfl rfl (by simp [Value.category]) ⟨⟨(Nat.le_of_ble_eq_true rfl), (Nat.le_of_ble_eq_true rfl)⟩, by omega, by omega⟩ (fun v19 X19 hp19 hE19 => ?_)))
                obtain ⟨rfl, hM1⟩ := hp19
                have hM := hM.tr hM1
                refine j_iret hF hR dX8_process_92 (by omega) (by omega) ?_
                refine PU ?_ (MX.of hM)
                unfold sp_process
                first | exact (pif_t ⟨⟨⟨⟨c4, c12⟩, c20⟩, c30⟩, c38⟩).trans ((pif_f (fun h => h.elim c73 (fun g => g c83))).trans (pif_t (Or.inl c100))) | exact (pif_t ⟨⟨⟨⟨c4, c12⟩, c20⟩, c30⟩, c38⟩).trans ((pif_f (fun h => h.elim c73 (fun g => g c83))).trans (pif_t (Or.inr ⟨c106, c121⟩))) | exact (pif_t ⟨⟨⟨⟨c4, c12⟩, c20⟩, c30⟩, c38⟩).trans (pif_t (Or.inl c73)) | exact (pif_t ⟨⟨⟨⟨c4, c12⟩, c20⟩, c30⟩, c38⟩).trans (pif_t (Or.inr c83)) | exact pif_f (fun h => c4 h.1.1.1.1) | exact pif_f (fun h => c12 h.1.1.1.2) | exact pif_f (fun h => c20 h.1.1.2) | exact pif_f (fun h => c30 h.1.2) | exact pif_f (fun h => c38 h.2)
          ·
            refine j_aload_n hF dX8_process_41 rfl (j_bipush hF dX8_process_42 (by decide) (j_callV hF (c_X8_fails hM.1 (by omega) hE) ms_X8_fails mv_X8_fails lk_RX8_52 dX8_process_44 hM.1.1 rfl rfl rfl (by simp [Value.category]) ⟨⟨(Nat.le_of_ble_eq_true rfl), (Nat.le_of_ble_eq_true rfl)⟩, by omega, by omega⟩ (fun v20 X20 hp20 hE20 => ?_)))
            obtain ⟨rfl, hM1⟩ := hp20
            have hM := hM.tr hM1
            refine j_iret hF hR dX8_process_47 (by omega) (by omega) ?_
            refine PU ?_ (MX.of hM)
            unfold sp_process
            first | exact (pif_t ⟨⟨⟨⟨c4, c12⟩, c20⟩, c30⟩, c38⟩).trans ((pif_f (fun h => h.elim c73 (fun g => g c83))).trans (pif_t (Or.inl c100))) | exact (pif_t ⟨⟨⟨⟨c4, c12⟩, c20⟩, c30⟩, c38⟩).trans ((pif_f (fun h => h.elim c73 (fun g => g c83))).trans (pif_t (Or.inr ⟨c106, c121⟩))) | exact (pif_t ⟨⟨⟨⟨c4, c12⟩, c20⟩, c30⟩, c38⟩).trans (pif_t (Or.inl c73)) | exact (pif_t ⟨⟨⟨⟨c4, c12⟩, c20⟩, c30⟩, c38⟩).trans (pif_t (Or.inr c83)) | exact pif_f (fun h => c4 h.1.1.1.1) | exact pif_f (fun h => c12 h.1.1.1.2) | exact pif_f (fun h => c20 h.1.1.2) | exact pif_f (fun h => c30 h.1.2) | exact pif_f (fun h => c38 h.2)
