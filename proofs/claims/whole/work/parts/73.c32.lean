theorem EO.b {r : Int → Int} (h : EO r) : EO (fu r 2 1) := fun n a b => by rw [fu_n (by omega)]; exact h n a b
theorem SG.fe (r : Int → Int) {i v : Int} (h : 11 ≤ i ∧ i < 17) : SG r (fu r i v) := fun j _ _ _ h2 => fu_n (by omega)
set_option maxRecDepth 100000 in
set_option maxHeartbeats 4000000 in
theorem c_X7_advance {X : Hp} {pt kap : Nat} {ct : Int} {r pf : Int → Int} {sv : Int} {er : Int → Int} (hP : PP X pt kap ct (r, pf, sv, er)) (hGV : GV r) (hE : EI er)  {n : Int} (hsv : 0 ≤ sv ∧ sv ≤ 3) (hA : AS r) {N : Int} (hI : RI r N) (hN : N + 12 < 6145) (h02 : r 2 = 0 ∨ r 2 = 1) (hC : CAN r) (hm : RM2 r) (ho : EO r) (h_n : -2147483648 ≤ n ∧ n ≤ 2147483647) : Cv yX7_advance cX7_advance 3 (some .int) 7 157 [.ref pt, vi n] X (393155 - kap) (6 * (393155 - kap)) (fun rv X' kk nn => rv = some (vi (sp_advance (r, pf, sv, er) n).1) ∧ PPQ X X' pt kap (ct + 1) (sp_advance (r, pf, sv, er) n).2 kk nn) := by
  refine Cv.of (by decide +kernel) [some (.ref pt), some (vi n), none] rfl (Nat.le_of_ble_eq_true rfl) (fun φ hF hR => ?_)
  obtain ⟨ea, sa, y, st, B, mk, gn, kn, kr, hO, hea, hWR, hgn, hST, hkap⟩ := id hP
  dsimp only at hO hea hWR hST
  obtain ⟨g, ml, ws, va, qa, oe, dc, v_, q_, n_, m_, z_, f_, hS, hV, hQ, hk_⟩ := id hST
  obtain ⟨av, aq, ao, af, h1, ⟨ga, gb, gc, gd, nc, ec, jd, js, je, jk, hGP, hGE⟩, ⟨mz, mt, yz, yt, hMP, x1, x2⟩, ⟨wz, wt, uz, ut, hWP, x3⟩, h5, h6, h7, h8, h9, h10, h11⟩ := id hS
  obtain ⟨g1, g1'⟩ := id hGE.1
  subst g1
  subst g1'
  have hpt := hO.pt.1
  have hLB := hO.pt.2
  unfold LB at hLB
  have b0 := hGV.1.1
  have b1 := hGV.1.2.1
  have hP2 := hP
  have hF2 := FB.refl 0 5000 X
  have hl1 := hST.le
  have hl2 := hO.le
  have hl3 := hWR.mk
  have hl4 : kpo n_ m_ = kn := hk_.symm
  refine j_aload_n hF dX7_advance_0 rfl (j_get hF hpt fl_RX7_27 dX7_advance_1 rfl (j_get hF h1 fl_RX7_43 dX7_advance_4 rfl (j_iload_n hF dX7_advance_7 rfl (j_callV hF (c_X0_hasNode hGP (by omega) (by omega)) ms_X0_hasNode mv_X0_hasNode lk_RX7_63 dX7_advance_8 hGP.1 rfl rfl rfl (by simp [Value.category]) ⟨⟨(Nat.le_of_ble_eq_true rfl), (Nat.le_of_ble_eq_true rfl)⟩, by omega, by omega⟩ (fun v1 X1 hp1 hE1 => ?_)))))
  obtain ⟨rfl, he1⟩ := hp1; obtain rfl := he1.symm
  refine j_b_ne hF 21 dX7_advance_11 (by decide) (fun c11 => ?_) (fun c11 => ?_)
  ·
    refine j_aload_n hF dX7_advance_21 rfl (j_get hF hpt fl_RX7_27 dX7_advance_22 rfl (j_get hF h1 fl_RX7_114 dX7_advance_25 rfl (j_iload_n hF dX7_advance_28 rfl (j_iald hF h7 dX7_advance_29 (by omega) (fun ra2 rb2 => ?_)))))
    have e3 := ho n c11.1 (by omega)
    rw [h10 n c11.1 (by omega)]
    refine j_istore_n hF dX7_advance_30 (Nat.le_of_ble_eq_true rfl) rfl (j_iload_n hF dX7_advance_31 rfl (j_if_lt hF 41 dX7_advance_32 (by decide) (by omega) (fun c32 => ?_) (fun c32 => ?_)))
    ·
      refine j_aload_n hF dX7_advance_41 rfl (j_bipush hF dX7_advance_42 (by decide) (j_callV hF (c_X7_fail hP hE (by omega)) ms_X7_fail mv_X7_fail lk_RX7_35 dX7_advance_44 hpt rfl rfl rfl (by simp [Value.category]) ⟨⟨(Nat.le_of_ble_eq_true rfl), (Nat.le_of_ble_eq_true rfl)⟩, by omega, by omega⟩ (fun v3 X3 hp3 hE3 => ?_)))
      obtain ⟨rfl, hP2, hF2⟩ := hp3
      refine j_iretv hF hR dX7_advance_47 (by omega) (by omega) ?_
      refine PV ?_ (hP2.mono (by omega)) hF2 (by omega) (by omega) (by omega)
      unfold sp_advance
      first | exact (pif_t c11).trans (pif_t (Or.inl c32)) | exact (pif_t c11).trans (pif_t (Or.inr (by dsimp only; omega)))
    ·
      refine j_iload_n hF dX7_advance_35 rfl (j_bipush hF dX7_advance_36 (by decide) (j_icmp_lt hF 48 dX7_advance_38 (by decide) (by omega) (fun c38 => ?_) (fun c38 => ?_)))
      ·
        refine j_aload_n hF dX7_advance_48 rfl (j_callVv hF (c_X7_beginEvent hO ⟨hea, hWR, hS, hV, hQ⟩ hsv hGV.1 hA hI (by omega) h02 hC) ms_X7_beginEvent mv_X7_beginEvent lk_RX7_129 dX7_advance_49 hpt rfl rfl rfl (by simp [Value.category]) ⟨⟨(Nat.le_of_ble_eq_true rfl), (Nat.le_of_ble_eq_true rfl)⟩, by omega, by omega⟩ (fun v4 X4 k4 n4 hp4 hE4 => ?_))
        obtain ⟨rfl, kr2, hO, ⟨hea, hWR, hS, hV, hQ⟩, hFF, hb1, hb2, hb3⟩ := hp4
        have hkl2 := hO.le
        have hpt := hO.pt.1
        have h1 := hS.o1
        obtain ⟨-, -, ao2, -, -, -, -, -, -, -, h7, -, -, h10b, -⟩ := id hS
        refine j_aload_n hF dX7_advance_52 rfl (j_get hF hpt fl_RX7_27 dX7_advance_53 rfl (j_get hF h1 fl_RX7_114 dX7_advance_56 rfl (j_iload_n hF dX7_advance_59 rfl (j_iload_n hF dX7_advance_60 rfl (j_iconst hF dX7_advance_61 ?_)))))
        refine j_iadd hF dX7_advance_62 (j_iast hF h7 dX7_advance_63 (by omega) (by omega) (j_nm (fun X5 eX5 => ?_)))
        have hFo : FB (B + 60) (B + 61) X4 X5 := FB.up eX5 h7 (by omega) (by omega)
        have hGe : GI (fu (fu r 2 1) (11 + n) (r (11 + n) + 1)) := (hGV.1.b).eq (fun i _ _ _ _ _ h2 => fu_n (by omega))
        have hAe : AS (fu (fu r 2 1) (11 + n) (r (11 + n) + 1)) := hA.b.row (fun i _ _ => fu_n (by omega))
        have hIe : RI (fu (fu r 2 1) (11 + n) (r (11 + n) + 1)) N := (RI_b hI).row (fun i _ _ => fu_n (by omega))
        have hoe : ∀ j, 0 ≤ j → j < 6 → fu ao2 n (r (11 + n) + 1) j = (fu (fu r 2 1) (11 + n) (r (11 + n) + 1)) (11 + j) := by
          intro j j1 j2
          by_cases qj : j = n
          · rw [qj, fu_s, fu_s]
          · rw [fu_n qj, fu_n (by omega)]; exact h10b j j1 j2
        have hS := hS.oe (r' := (fu (fu r 2 1) (11 + n) (r (11 + n) + 1))) hGV.1.b hA.b hFo (ups eX5) hoe (fun i _ i2 => fu_n (by omega))
        have hV := (hV.keep hFo (by omega)).row (r' := (fu (fu r 2 1) (11 + n) (r (11 + n) + 1))) (fun i i1 => fu_n (by omega))
        have hQ := (hQ.keep hFo (by omega)).row (r' := (fu (fu r 2 1) (11 + n) (r (11 + n) + 1))) (fun i i1 i2 => fu_n (by omega))
        have hO := hO.keep hFo (by omega)
        have hpt := hO.pt.1
        have h1 := hS.o1
        have hea := hFo _ _ _ hea (by omega)
        have hWR := (hWR.keep hFo (by omega)).row (r' := (fu (fu r 2 1) (11 + n) (r (11 + n) + 1))) hGV.1.b (SG.fe _ (by omega))
        have hFF := hFF.trans (hFo.mono (by omega) (by omega))
        refine j_aload_n hF dX7_advance_64 rfl (j_get hF hpt fl_RX7_27 dX7_advance_65 rfl (j_iconst hF dX7_advance_68 (j_iload_n hF dX7_advance_69 rfl (j_bipush hF dX7_advance_70 (by decide) (j_iload_n hF dX7_advance_72 rfl ?_)))))
        refine j_iconst hF dX7_advance_73 (j_iadd hF dX7_advance_74 (j_imul hF dX7_advance_75 (j_callS hF (c_X7_stampOf) ms_X7_stampOf mt_X7_stampOf lk_RX7_94 dX7_advance_76 rfl rfl rfl (by simp [Value.category]) ⟨⟨(Nat.le_of_ble_eq_true rfl), (Nat.le_of_ble_eq_true rfl)⟩, by omega, by omega⟩ (fun v6 X6 hp6 hE6 => ?_))))
        obtain ⟨rfl, he6⟩ := hp6; obtain rfl := he6.symm
        refine j_iconst hF dX7_advance_79 (j_callVv hF (c_X2_update (p := n) (t := (100 * (r (11 + n) + 1))) (c := 1) (N := N) (r := (fu (fu r 2 1) (11 + n) (r (11 + n) + 1))) ⟨g, ml, ws, va, qa, oe, dc, v_, q_, n_, m_, z_, f_, hS, hV, hQ, rfl⟩ hGe hAe hIe (by omega) (by rw [fu_n (by omega), fu_s]) (by omega) (by omega) (by omega) (by omega)) ms_X2_update mv_X2_update lk_RX7_136 dX7_advance_80 h1 rfl rfl rfl (by simp [Value.category]) ⟨⟨(Nat.le_of_ble_eq_true rfl), (Nat.le_of_ble_eq_true rfl)⟩, by omega, by omega⟩ (fun v7 X7 k7 n7 hp7 hE7 => ?_))
        obtain ⟨rfl, kna, hSTa, hFqa, hq1a, hq2a, hq3a⟩ := hp7
        have hq4a := hSTa.le
        have hO := hO.keep hFqa (by omega)
        have hpt := hO.pt.1
        obtain ⟨ola, h1⟩ := hSTa.obj
        have hea := hFqa _ _ _ hea (by omega)
        have hFF := hFF.trans (hFqa.mono (by omega) (by omega))
        have hsa : SG (fu (fu r 2 1) (11 + n) (r (11 + n) + 1)) (m_upd (fu (fu r 2 1) (11 + n) (r (11 + n) + 1)) 0 n (100 * (r (11 + n) + 1)) 1) := SG.upd (w := 0) (p := n) hIe (by omega) (by omega) (by omega)
        have hWR := (hWR.keep hFqa (by omega)).row hGe hsa
        have hGa := hsa.gi hGe
        have hIa : RI (m_upd (fu (fu r 2 1) (11 + n) (r (11 + n) + 1)) 0 n (100 * (r (11 + n) + 1)) 1) (N + 1) := hIe.up (by omega) (by omega) (by omega) (by omega) (by omega)
        have hAa : AS (m_upd (fu (fu r 2 1) (11 + n) (r (11 + n) + 1)) 0 n (100 * (r (11 + n) + 1)) 1) := hAe.row (fun i _ _ => m_upd_lo hIe (by omega) (by omega) (by omega) (by omega) (by omega))
        refine j_aload_n hF dX7_advance_83 rfl (j_get hF hpt fl_RX7_27 dX7_advance_84 rfl (j_iconst hF dX7_advance_87 (j_iload_n hF dX7_advance_88 rfl (j_bipush hF dX7_advance_89 (by decide) (j_iload_n hF dX7_advance_91 rfl ?_)))))
        refine j_imul hF dX7_advance_92 (j_callS hF (c_X7_stampOf) ms_X7_stampOf mt_X7_stampOf lk_RX7_94 dX7_advance_93 rfl rfl rfl (by simp [Value.category]) ⟨⟨(Nat.le_of_ble_eq_true rfl), (Nat.le_of_ble_eq_true rfl)⟩, by omega, by omega⟩ (fun v8 X8 hp8 hE8 => ?_))
        obtain ⟨rfl, he8⟩ := hp8; obtain rfl := he8.symm
        refine j_iconst hF dX7_advance_96 (j_callVv hF (c_X2_update (p := n) (t := (100 * r (11 + n))) (c := -1) (N := N + 1) hSTa hGa hAa hIa (by omega) (by unfold m_upd; exact fu_s) (by omega) (by omega) (by omega) (by omega)) ms_X2_update mv_X2_update lk_RX7_136 dX7_advance_97 h1 rfl rfl rfl (by simp [Value.category]) ⟨⟨(Nat.le_of_ble_eq_true rfl), (Nat.le_of_ble_eq_true rfl)⟩, by omega, by omega⟩ (fun v9 X9 k9 n9 hp9 hE9 => ?_))
        obtain ⟨rfl, knb, hSTb, hFqb, hq1b, hq2b, hq3b⟩ := hp9
        have hq4b := hSTb.le
        have hO := hO.keep hFqb (by omega)
        have hpt := hO.pt.1
        obtain ⟨olb, h1⟩ := hSTb.obj
        have hea := hFqb _ _ _ hea (by omega)
        have hFF := hFF.trans (hFqb.mono (by omega) (by omega))
        have hsb : SG (m_upd (fu (fu r 2 1) (11 + n) (r (11 + n) + 1)) 0 n (100 * (r (11 + n) + 1)) 1) (m_upd (m_upd (fu (fu r 2 1) (11 + n) (r (11 + n) + 1)) 0 n (100 * (r (11 + n) + 1)) 1) 0 n (100 * r (11 + n)) (-1)) := SG.upd (w := 0) (p := n) hIa (by omega) (by omega) (by omega)
        have hWR := (hWR.keep hFqb (by omega)).row hGa hsb
        refine j_iload_n hF dX7_advance_100 rfl (j_iconst hF dX7_advance_101 (j_iadd hF dX7_advance_102 (j_iretv hF hR dX7_advance_103 (by omega) (by omega) ?_)))
        have hP2 := PP.mk hO hea hWR (c := ct + 1) (by omega) hSTb
        refine PV ?_ hP2 hFF (by omega) (by omega) (by omega)
        unfold sp_advance
        refine (pif_t c11).trans ((pif_f (by dsimp only; omega)).trans ?_)
        unfold sp_new
        dsimp only
        rw [((AG.b r).st (a := 11 + n) (x := (r (11 + n) + 1)) rfl rfl).upd (w := 0) (p := n) (by omega) (by omega) (by omega) (hIe.q (w := 1 - 0) (by omega)).1]
      ·
        refine j_aload_n hF dX7_advance_41 rfl (j_bipush hF dX7_advance_42 (by decide) (j_callV hF (c_X7_fail hP hE (by omega)) ms_X7_fail mv_X7_fail lk_RX7_35 dX7_advance_44 hpt rfl rfl rfl (by simp [Value.category]) ⟨⟨(Nat.le_of_ble_eq_true rfl), (Nat.le_of_ble_eq_true rfl)⟩, by omega, by omega⟩ (fun v10 X10 hp10 hE10 => ?_)))
        obtain ⟨rfl, hP2, hF2⟩ := hp10
        refine j_iretv hF hR dX7_advance_47 (by omega) (by omega) ?_
        refine PV ?_ (hP2.mono (by omega)) hF2 (by omega) (by omega) (by omega)
        unfold sp_advance
        first | exact (pif_t c11).trans (pif_t (Or.inl c32)) | exact (pif_t c11).trans (pif_t (Or.inr (by dsimp only; omega)))
  ·
    refine j_aload_n hF dX7_advance_14 rfl (j_bipush hF dX7_advance_15 (by decide) (j_callV hF (c_X7_fail hP hE (by omega)) ms_X7_fail mv_X7_fail lk_RX7_35 dX7_advance_17 hpt rfl rfl rfl (by simp [Value.category]) ⟨⟨(Nat.le_of_ble_eq_true rfl), (Nat.le_of_ble_eq_true rfl)⟩, by omega, by omega⟩ (fun v11 X11 hp11 hE11 => ?_)))
    obtain ⟨rfl, hP2, hF2⟩ := hp11
    refine j_iretv hF hR dX7_advance_20 (by omega) (by omega) ?_
    refine PV ?_ (hP2.mono (by omega)) hF2 (by omega) (by omega) (by omega)
    unfold sp_advance
    first | exact pif_f c11

set_option maxRecDepth 100000 in
set_option maxHeartbeats 4000000 in
theorem c_X7_close {X : Hp} {pt kap : Nat} {ct : Int} {r pf : Int → Int} {sv : Int} {er : Int → Int} (hP : PP X pt kap ct (r, pf, sv, er)) (hGV : GV r) (hE : EI er)  {n : Int} (hsv : 0 ≤ sv ∧ sv ≤ 3) (hA : AS r) {N : Int} (hI : RI r N) (hN : N + 12 < 6145) (h02 : r 2 = 0 ∨ r 2 = 1) (hC : CAN r) (hm : RM2 r) (ho : EO r) (h_n : -2147483648 ≤ n ∧ n ≤ 2147483647) : Cv yX7_close cX7_close 3 (some .int) 7 157 [.ref pt, vi n] X (393155 - kap) (6 * (393155 - kap)) (fun rv X' kk nn => rv = some (vi (sp_close (r, pf, sv, er) n).1) ∧ PPQ X X' pt kap (ct + 1) (sp_close (r, pf, sv, er) n).2 kk nn) := by
  refine Cv.of (by decide +kernel) [some (.ref pt), some (vi n), none] rfl (Nat.le_of_ble_eq_true rfl) (fun φ hF hR => ?_)
  obtain ⟨ea, sa, y, st, B, mk, gn, kn, kr, hO, hea, hWR, hgn, hST, hkap⟩ := id hP
  dsimp only at hO hea hWR hST
  obtain ⟨g, ml, ws, va, qa, oe, dc, v_, q_, n_, m_, z_, f_, hS, hV, hQ, hk_⟩ := id hST
  obtain ⟨av, aq, ao, af, h1, ⟨ga, gb, gc, gd, nc, ec, jd, js, je, jk, hGP, hGE⟩, ⟨mz, mt, yz, yt, hMP, x1, x2⟩, ⟨wz, wt, uz, ut, hWP, x3⟩, h5, h6, h7, h8, h9, h10, h11⟩ := id hS
  obtain ⟨g1, g1'⟩ := id hGE.1
  subst g1
  subst g1'
  have hpt := hO.pt.1
  have hLB := hO.pt.2
  unfold LB at hLB
  have b0 := hGV.1.1
  have b1 := hGV.1.2.1
  have hP2 := hP
  have hF2 := FB.refl 0 5000 X
  have hl1 := hST.le
  have hl2 := hO.le
  have hl3 := hWR.mk
  have hl4 : kpo n_ m_ = kn := hk_.symm
  refine j_aload_n hF dX7_close_0 rfl (j_get hF hpt fl_RX7_27 dX7_close_1 rfl (j_get hF h1 fl_RX7_43 dX7_close_4 rfl (j_iload_n hF dX7_close_7 rfl (j_callV hF (c_X0_hasNode hGP (by omega) (by omega)) ms_X0_hasNode mv_X0_hasNode lk_RX7_63 dX7_close_8 hGP.1 rfl rfl rfl (by simp [Value.category]) ⟨⟨(Nat.le_of_ble_eq_true rfl), (Nat.le_of_ble_eq_true rfl)⟩, by omega, by omega⟩ (fun v1 X1 hp1 hE1 => ?_)))))
  obtain ⟨rfl, he1⟩ := hp1; obtain rfl := he1.symm
  refine j_b_ne hF 21 dX7_close_11 (by decide) (fun c11 => ?_) (fun c11 => ?_)
  ·
    refine j_aload_n hF dX7_close_21 rfl (j_get hF hpt fl_RX7_27 dX7_close_22 rfl (j_get hF h1 fl_RX7_114 dX7_close_25 rfl (j_iload_n hF dX7_close_28 rfl (j_iald hF h7 dX7_close_29 (by omega) (fun ra2 rb2 => ?_)))))
    have e3 := ho n c11.1 (by omega)
    rw [h10 n c11.1 (by omega)]
    refine j_istore_n hF dX7_close_30 (Nat.le_of_ble_eq_true rfl) rfl (j_iload_n hF dX7_close_31 rfl (j_if_ge hF 42 dX7_close_32 (by decide) (by omega) (fun c32 => ?_) (fun c32 => ?_)))
    ·
      refine j_aload_n hF dX7_close_42 rfl (j_callVv hF (c_X7_beginEvent hO ⟨hea, hWR, hS, hV, hQ⟩ hsv hGV.1 hA hI (by omega) h02 hC) ms_X7_beginEvent mv_X7_beginEvent lk_RX7_129 dX7_close_43 hpt rfl rfl rfl (by simp [Value.category]) ⟨⟨(Nat.le_of_ble_eq_true rfl), (Nat.le_of_ble_eq_true rfl)⟩, by omega, by omega⟩ (fun v3 X3 k3 n3 hp3 hE3 => ?_))
      obtain ⟨rfl, kr2, hO, ⟨hea, hWR, hS, hV, hQ⟩, hFF, hb1, hb2, hb3⟩ := hp3
      have hkl2 := hO.le
      have hpt := hO.pt.1
      have h1 := hS.o1
      obtain ⟨-, -, ao2, -, -, -, -, -, -, -, h7, -, -, h10b, -⟩ := id hS
      refine j_aload_n hF dX7_close_46 rfl (j_get hF hpt fl_RX7_27 dX7_close_47 rfl (j_get hF h1 fl_RX7_114 dX7_close_50 rfl (j_iload_n hF dX7_close_53 rfl (j_bipush hF dX7_close_54 (by decide) (j_iast hF h7 dX7_close_56 (by omega) (by omega) (j_nm (fun X4 eX4 => ?_)))))))
      have hFo : FB (B + 60) (B + 61) X3 X4 := FB.up eX4 h7 (by omega) (by omega)
      have hGe : GI (fu (fu r 2 1) (11 + n) (-2)) := (hGV.1.b).eq (fun i _ _ _ _ _ h2 => fu_n (by omega))
      have hAe : AS (fu (fu r 2 1) (11 + n) (-2)) := hA.b.row (fun i _ _ => fu_n (by omega))
      have hIe : RI (fu (fu r 2 1) (11 + n) (-2)) N := (RI_b hI).row (fun i _ _ => fu_n (by omega))
      have hoe : ∀ j, 0 ≤ j → j < 6 → fu ao2 n (-2) j = (fu (fu r 2 1) (11 + n) (-2)) (11 + j) := by
        intro j j1 j2
        by_cases qj : j = n
        · rw [qj, fu_s, fu_s]
        · rw [fu_n qj, fu_n (by omega)]; exact h10b j j1 j2
      have hS := hS.oe (r' := (fu (fu r 2 1) (11 + n) (-2))) hGV.1.b hA.b hFo (ups eX4) hoe (fun i _ i2 => fu_n (by omega))
      have hV := (hV.keep hFo (by omega)).row (r' := (fu (fu r 2 1) (11 + n) (-2))) (fun i i1 => fu_n (by omega))
      have hQ := (hQ.keep hFo (by omega)).row (r' := (fu (fu r 2 1) (11 + n) (-2))) (fun i i1 i2 => fu_n (by omega))
      have hO := hO.keep hFo (by omega)
      have hpt := hO.pt.1
      have h1 := hS.o1
      have hea := hFo _ _ _ hea (by omega)
      have hWR := (hWR.keep hFo (by omega)).row (r' := (fu (fu r 2 1) (11 + n) (-2))) hGV.1.b (SG.fe _ (by omega))
      have hFF := hFF.trans (hFo.mono (by omega) (by omega))
      refine j_aload_n hF dX7_close_57 rfl (j_get hF hpt fl_RX7_27 dX7_close_58 rfl (j_iconst hF dX7_close_61 (j_iload_n hF dX7_close_62 rfl (j_bipush hF dX7_close_63 (by decide) (j_iload_n hF dX7_close_65 rfl ?_)))))
      refine j_imul hF dX7_close_66 (j_callS hF (c_X7_stampOf) ms_X7_stampOf mt_X7_stampOf lk_RX7_94 dX7_close_67 rfl rfl rfl (by simp [Value.category]) ⟨⟨(Nat.le_of_ble_eq_true rfl), (Nat.le_of_ble_eq_true rfl)⟩, by omega, by omega⟩ (fun v5 X5 hp5 hE5 => ?_))
      obtain ⟨rfl, he5⟩ := hp5; obtain rfl := he5.symm
      refine j_iconst hF dX7_close_70 (j_callVv hF (c_X2_update (p := n) (t := (100 * r (11 + n))) (c := -1) (N := N) (r := (fu (fu r 2 1) (11 + n) (-2))) ⟨g, ml, ws, va, qa, oe, dc, v_, q_, n_, m_, z_, f_, hS, hV, hQ, rfl⟩ hGe hAe hIe (by omega) (by rw [fu_n (by omega), fu_s]) (by omega) (by omega) (by omega) (by omega)) ms_X2_update mv_X2_update lk_RX7_136 dX7_close_71 h1 rfl rfl rfl (by simp [Value.category]) ⟨⟨(Nat.le_of_ble_eq_true rfl), (Nat.le_of_ble_eq_true rfl)⟩, by omega, by omega⟩ (fun v6 X6 k6 n6 hp6 hE6 => ?_))
      obtain ⟨rfl, kna, hSTa, hFqa, hq1a, hq2a, hq3a⟩ := hp6
      have hq4a := hSTa.le
      have hO := hO.keep hFqa (by omega)
      have hpt := hO.pt.1
      obtain ⟨ola, h1⟩ := hSTa.obj
      have hea := hFqa _ _ _ hea (by omega)
      have hFF := hFF.trans (hFqa.mono (by omega) (by omega))
      have hsa : SG (fu (fu r 2 1) (11 + n) (-2)) (m_upd (fu (fu r 2 1) (11 + n) (-2)) 0 n (100 * r (11 + n)) (-1)) := SG.upd (w := 0) (p := n) hIe (by omega) (by omega) (by omega)
      have hWR := (hWR.keep hFqa (by omega)).row hGe hsa
      refine j_iload_n hF dX7_close_74 rfl (j_iretv hF hR dX7_close_75 (by omega) (by omega) ?_)
      have hP2 := PP.mk hO hea hWR (c := ct + 1) (by omega) hSTa
      refine PV ?_ hP2 hFF (by omega) (by omega) (by omega)
      unfold sp_close
      refine (pif_t c11).trans ((pif_f (by dsimp only; omega)).trans ?_)
      unfold sp_new
      dsimp only
      rw [((AG.b r).st (a := 11 + n) (x := (-2)) rfl rfl).upd (w := 0) (p := n) (by omega) (by omega) (by omega) (hIe.q (w := 1 - 0) (by omega)).1]
    ·
      refine j_aload_n hF dX7_close_35 rfl (j_bipush hF dX7_close_36 (by decide) (j_callV hF (c_X7_fail hP hE (by omega)) ms_X7_fail mv_X7_fail lk_RX7_35 dX7_close_38 hpt rfl rfl rfl (by simp [Value.category]) ⟨⟨(Nat.le_of_ble_eq_true rfl), (Nat.le_of_ble_eq_true rfl)⟩, by omega, by omega⟩ (fun v7 X7 hp7 hE7 => ?_)))
      obtain ⟨rfl, hP2, hF2⟩ := hp7
      refine j_iretv hF hR dX7_close_41 (by omega) (by omega) ?_
      refine PV ?_ (hP2.mono (by omega)) hF2 (by omega) (by omega) (by omega)
      unfold sp_close
      first | exact (pif_t c11).trans (pif_t c32)
  ·
    refine j_aload_n hF dX7_close_14 rfl (j_bipush hF dX7_close_15 (by decide) (j_callV hF (c_X7_fail hP hE (by omega)) ms_X7_fail mv_X7_fail lk_RX7_35 dX7_close_17 hpt rfl rfl rfl (by simp [Value.category]) ⟨⟨(Nat.le_of_ble_eq_true rfl), (Nat.le_of_ble_eq_true rfl)⟩, by omega, by omega⟩ (fun v8 X8 hp8 hE8 => ?_)))
    obtain ⟨rfl, hP2, hF2⟩ := hp8
    refine j_iretv hF hR dX7_close_20 (by omega) (by omega) ?_
    refine PV ?_ (hP2.mono (by omega)) hF2 (by omega) (by omega) (by omega)
    unfold sp_close
    first | exact pif_f c11

set_option maxRecDepth 100000 in
set_option maxHeartbeats 4000000 in
theorem c_X7_addNode {X : Hp} {pt kap : Nat} {ct : Int} {r pf : Int → Int} {sv : Int} {er : Int → Int} (hP : PP X pt kap ct (r, pf, sv, er)) (hGV : GV r) (hE : EI er)  {d i : Int} (hsv : 0 ≤ sv ∧ sv ≤ 3) (hA : AS r) {N : Int} (hI : RI r N) (hN : N + 12 < 6145) (h02 : r 2 = 0 ∨ r 2 = 1) (hC : CAN r) (hm : RM2 r) (ho : EO r) (h_d : -2147483648 ≤ d ∧ d ≤ 2147483647) (h_i : -2147483648 ≤ i ∧ i ≤ 2147483647) : Cv yX7_addNode cX7_addNode 3 (some .int) 6 144 [.ref pt, vi d, vi i] X (393155 - kap) (6 * (393155 - kap)) (fun rv X' kk nn => rv = some (vi (sp_addNode (r, pf, sv, er) d i).1) ∧ PPQ X X' pt kap (ct + 1) (sp_addNode (r, pf, sv, er) d i).2 kk nn) := by
  refine Cv.of (by decide +kernel) [some (.ref pt), some (vi d), some (vi i)] rfl (Nat.le_of_ble_eq_true rfl) (fun φ hF hR => ?_)
  obtain ⟨ea, sa, y, st, B, mk, gn, kn, kr, hO, hea, hWR, hgn, hST, hkap⟩ := id hP
  dsimp only at hO hea hWR hST
  obtain ⟨g, ml, ws, va, qa, oe, dc, v_, q_, n_, m_, z_, f_, hS, hV, hQ, hk_⟩ := id hST
  obtain ⟨av, aq, ao, af, h1, ⟨ga, gb, gc, gd, nc, ec, jd, js, je, jk, hGP, hGE⟩, ⟨mz, mt, yz, yt, hMP, x1, x2⟩, ⟨wz, wt, uz, ut, hWP, x3⟩, h5, h6, h7, h8, h9, h10, h11⟩ := id hS
  obtain ⟨g1, g1'⟩ := id hGE.1
  subst g1
  subst g1'
  have hpt := hO.pt.1
  have hLB := hO.pt.2
  unfold LB at hLB
  have b0 := hGV.1.1
  have b1 := hGV.1.2.1
  have hP2 := hP
  have hF2 := FB.refl 0 5000 X
  have hl1 := hST.le
  have hl2 := hO.le
  have hl3 := hWR.mk
  have hl4 : kpo n_ m_ = kn := hk_.symm
  refine j_iload_n hF dX7_addNode_0 rfl (j_if_lt hF 25 dX7_addNode_1 (by decide) (by omega) (fun c1 => ?_) (fun c1 => ?_))
  ·
    refine j_aload_n hF dX7_addNode_25 rfl (j_bipush hF dX7_addNode_26 (by decide) (j_callV hF (c_X7_fail hP hE (by omega)) ms_X7_fail mv_X7_fail lk_RX7_35 dX7_addNode_28 hpt rfl rfl rfl (by simp [Value.category]) ⟨⟨(Nat.le_of_ble_eq_true rfl), (Nat.le_of_ble_eq_true rfl)⟩, by omega, by omega⟩ (fun v1 X1 hp1 hE1 => ?_)))
    obtain ⟨rfl, hP2, hF2⟩ := hp1
    refine j_iretv hF hR dX7_addNode_31 (by omega) (by omega) ?_
    refine PV ?_ (hP2.mono (by omega)) hF2 (by omega) (by omega) (by omega)
    unfold sp_addNode
    first | exact pif_f (fun h => absurd h.1.1.1 (Int.not_le.mpr c1)) | exact pif_f (fun h => absurd h.1.1.2 (Int.not_le.mpr c6)) | exact pif_f (fun h => c13 h.1.2) | exact pif_f (fun h => h.2 ⟨c18, c22⟩)
  ·
    refine j_iload_n hF dX7_addNode_4 rfl (j_iconst hF dX7_addNode_5 (j_icmp_gt hF 25 dX7_addNode_6 (by decide) (by omega) (fun c6 => ?_) (fun c6 => ?_)))
    ·
      refine j_aload_n hF dX7_addNode_25 rfl (j_bipush hF dX7_addNode_26 (by decide) (j_callV hF (c_X7_fail hP hE (by omega)) ms_X7_fail mv_X7_fail lk_RX7_35 dX7_addNode_28 hpt rfl rfl rfl (by simp [Value.category]) ⟨⟨(Nat.le_of_ble_eq_true rfl), (Nat.le_of_ble_eq_true rfl)⟩, by omega, by omega⟩ (fun v2 X2 hp2 hE2 => ?_)))
      obtain ⟨rfl, hP2, hF2⟩ := hp2
      refine j_iretv hF hR dX7_addNode_31 (by omega) (by omega) ?_
      refine PV ?_ (hP2.mono (by omega)) hF2 (by omega) (by omega) (by omega)
      unfold sp_addNode
      first | exact pif_f (fun h => absurd h.1.1.1 (Int.not_le.mpr c1)) | exact pif_f (fun h => absurd h.1.1.2 (Int.not_le.mpr c6)) | exact pif_f (fun h => c13 h.1.2) | exact pif_f (fun h => h.2 ⟨c18, c22⟩)
    ·
      refine j_iload_n hF dX7_addNode_9 rfl (j_callS hF (c_X7_isFlag (by omega)) ms_X7_isFlag mt_X7_isFlag lk_RX7_31 dX7_addNode_10 rfl rfl rfl (by simp [Value.category]) ⟨⟨(Nat.le_of_ble_eq_true rfl), (Nat.le_of_ble_eq_true rfl)⟩, by omega, by omega⟩ (fun v3 X3 hp3 hE3 => ?_))
      obtain ⟨rfl, he3⟩ := hp3; obtain rfl := he3.symm
      refine j_b_eq hF 25 dX7_addNode_13 (by decide) (fun c13 => ?_) (fun c13 => ?_)
      ·
        refine j_aload_n hF dX7_addNode_25 rfl (j_bipush hF dX7_addNode_26 (by decide) (j_callV hF (c_X7_fail hP hE (by omega)) ms_X7_fail mv_X7_fail lk_RX7_35 dX7_addNode_28 hpt rfl rfl rfl (by simp [Value.category]) ⟨⟨(Nat.le_of_ble_eq_true rfl), (Nat.le_of_ble_eq_true rfl)⟩, by omega, by omega⟩ (fun v4 X4 hp4 hE4 => ?_)))
        obtain ⟨rfl, hP2, hF2⟩ := hp4
        refine j_iretv hF hR dX7_addNode_31 (by omega) (by omega) ?_
        refine PV ?_ (hP2.mono (by omega)) hF2 (by omega) (by omega) (by omega)
        unfold sp_addNode
        first | exact pif_f (fun h => absurd h.1.1.1 (Int.not_le.mpr c1)) | exact pif_f (fun h => absurd h.1.1.2 (Int.not_le.mpr c6)) | exact pif_f (fun h => c13 h.1.2) | exact pif_f (fun h => h.2 ⟨c18, c22⟩)
      ·
        refine j_iload_n hF dX7_addNode_16 rfl (j_iconst hF dX7_addNode_17 (j_icmp_ne hF 32 dX7_addNode_18 (by decide) (by omega) (fun c18 => ?_) (fun c18 => ?_)))
        ·
          refine j_aload_n hF dX7_addNode_32 rfl (j_get hF hpt fl_RX7_27 dX7_addNode_33 rfl (j_get hF h1 fl_RX7_39 dX7_addNode_36 rfl (j_if_eq hF 49 dX7_addNode_39 (by decide) (by omega) (fun c39 => ?_) (fun c39 => ?_))))
          ·
            refine j_aload_n hF dX7_addNode_49 rfl (j_get hF hpt fl_RX7_27 dX7_addNode_50 rfl (j_get hF h1 fl_RX7_43 dX7_addNode_53 rfl (j_get hF hGP.1 fl_RX7_47 dX7_addNode_56 rfl (j_bipush hF dX7_addNode_59 (by decide) (j_icmp_lt hF 71 dX7_addNode_61 (by decide) (by omega) (fun c61 => ?_) (fun c61 => ?_))))))
            ·
              refine j_aload_n hF dX7_addNode_71 rfl (j_callVv hF (c_X7_save hO ⟨hea, hWR, hS, hV, hQ⟩ hsv hGV.1 hA hI (by omega) h02 hC) ms_X7_save mv_X7_save lk_RX7_53 dX7_addNode_72 hpt rfl rfl rfl (by simp [Value.category]) ⟨⟨(Nat.le_of_ble_eq_true rfl), (Nat.le_of_ble_eq_true rfl)⟩, by omega, by omega⟩ (fun v5 X5 k5 n5 hp5 hE5 => ?_))
              obtain ⟨rfl, kr2, hO, ⟨hea, hWR, hS, hV, hQ⟩, hFF, hb1, hb2, hb3⟩ := hp5
              have hkl2 := hO.le
              have hpt := hO.pt.1
              have h1 := hS.o1
              obtain ⟨yl, hyo⟩ := hWR.obj
              refine j_aload_n hF dX7_addNode_75 rfl (j_get hF hpt fl_RX7_22 dX7_addNode_76 rfl (j_callV hF (c_X5_forgets hWR (m_node r d i)) ms_X5_forget mv_X5_forget lk_RX7_56 dX7_addNode_79 hyo rfl rfl rfl (by simp [Value.category]) ⟨⟨(Nat.le_of_ble_eq_true rfl), (Nat.le_of_ble_eq_true rfl)⟩, by omega, by omega⟩ (fun v6 X6 hp6 hE6 => ?_)))
              obtain ⟨rfl, hWR, hFy⟩ := hp6
              have hO := hO.keep hFy (by omega)
              have hpt := hO.pt.1
              have hea := hFy _ _ _ hea (by omega)
              have hS := hS.keep hFy (by omega)
              have hV := hV.keep hFy (by omega)
              have hQ := hQ.keep hFy (by omega)
              have h1 := hS.o1
              have hFF := hFF.trans (hFy.mono (by omega) (by omega))
              refine j_aload_n hF dX7_addNode_82 rfl (j_get hF hpt fl_RX7_27 dX7_addNode_83 rfl (j_iload_n hF dX7_addNode_86 rfl (j_iload_n hF dX7_addNode_87 rfl (j_iconst hF dX7_addNode_88 (j_icmp_ne hF 96 dX7_addNode_89 (by decide) (by omega) (fun c89 => ?_) (fun c89 => ?_))))))
              ·
                obtain rfl : i = 0 := by omega
                refine j_iconst hF dX7_addNode_96 (j_callVv hF (c_X2_appendNode (zi := 0) (N := N) ⟨g, ml, ws, va, qa, oe, dc, v_, q_, n_, m_, z_, f_, hS, hV, hQ, rfl⟩ hGV hA hI (by omega) ⟨b0.1, by omega⟩ (by omega) (by omega)) ms_X2_appendNode mv_X2_appendNode lk_RX7_59 dX7_addNode_97 h1 rfl rfl rfl (by simp [Value.category]) ⟨⟨(Nat.le_of_ble_eq_true rfl), (Nat.le_of_ble_eq_true rfl)⟩, by omega, by omega⟩ (fun v7 X7 k7 n7 hp7 hE7 => ?_))
                obtain ⟨rfl, kna, hSTa, hFqa, hq1a, hq2a, hq3a⟩ := hp7
                have hq4a := hSTa.le
                have hO := hO.keep hFqa (by omega)
                have hpt := hO.pt.1
                obtain ⟨ola, h1⟩ := hSTa.obj
                have hea := hFqa _ _ _ hea (by omega)
                have hFF := hFF.trans (hFqa.mono (by omega) (by omega))
                refine j_iretv hF hR dX7_addNode_100 (by omega) (by omega) ?_
                have hWR := hWR.keep hFqa (by omega)
                have hP2 := PP.mk hO hea hWR (c := ct + 1) (by omega) hSTa
                refine PV ?_ hP2 hFF (by omega) (by omega) (by omega)
                unfold sp_addNode
                first
                | exact (pif_t ⟨⟨⟨c1, c6⟩, c13⟩, by omega⟩).trans ((pif_f (by dsimp only; omega)).trans (pif_f (by dsimp only; omega)))
                | exact (pif_t ⟨⟨⟨c1, c6⟩, c13⟩, by omega⟩).trans ((pif_f (by dsimp only; omega)).trans (pif_f (by dsimp only; omega)))
              ·
                obtain rfl : i = 1 := c89
                refine j_iconst hF dX7_addNode_92 (j_goto hF 97 dX7_addNode_93 (by decide) (j_callVv hF (c_X2_appendNode (zi := 1) (N := N) ⟨g, ml, ws, va, qa, oe, dc, v_, q_, n_, m_, z_, f_, hS, hV, hQ, rfl⟩ hGV hA hI (by omega) ⟨b0.1, by omega⟩ (by omega) (by omega)) ms_X2_appendNode mv_X2_appendNode lk_RX7_59 dX7_addNode_97 h1 rfl rfl rfl (by simp [Value.category]) ⟨⟨(Nat.le_of_ble_eq_true rfl), (Nat.le_of_ble_eq_true rfl)⟩, by omega, by omega⟩ (fun v8 X8 k8 n8 hp8 hE8 => ?_)))
                obtain ⟨rfl, kna, hSTa, hFqa, hq1a, hq2a, hq3a⟩ := hp8
                have hq4a := hSTa.le
                have hO := hO.keep hFqa (by omega)
                have hpt := hO.pt.1
                obtain ⟨ola, h1⟩ := hSTa.obj
                have hea := hFqa _ _ _ hea (by omega)
                have hFF := hFF.trans (hFqa.mono (by omega) (by omega))
                refine j_iretv hF hR dX7_addNode_100 (by omega) (by omega) ?_
                have hWR := hWR.keep hFqa (by omega)
                have hP2 := PP.mk hO hea hWR (c := ct + 1) (by omega) hSTa
                refine PV ?_ hP2 hFF (by omega) (by omega) (by omega)
                unfold sp_addNode
                first
                | exact (pif_t ⟨⟨⟨c1, c6⟩, c13⟩, by omega⟩).trans ((pif_f (by dsimp only; omega)).trans (pif_f (by dsimp only; omega)))
                | exact (pif_t ⟨⟨⟨c1, c6⟩, c13⟩, by omega⟩).trans ((pif_f (by dsimp only; omega)).trans (pif_f (by dsimp only; omega)))
            ·
              refine j_aload_n hF dX7_addNode_64 rfl (j_bipush hF dX7_addNode_65 (by decide) (j_callV hF (c_X7_fail hP hE (by omega)) ms_X7_fail mv_X7_fail lk_RX7_35 dX7_addNode_67 hpt rfl rfl rfl (by simp [Value.category]) ⟨⟨(Nat.le_of_ble_eq_true rfl), (Nat.le_of_ble_eq_true rfl)⟩, by omega, by omega⟩ (fun v9 X9 hp9 hE9 => ?_)))
              obtain ⟨rfl, hP2, hF2⟩ := hp9
              refine j_iretv hF hR dX7_addNode_70 (by omega) (by omega) ?_
              refine PV ?_ (hP2.mono (by omega)) hF2 (by omega) (by omega) (by omega)
              unfold sp_addNode
              first | exact (pif_t ⟨⟨⟨c1, c6⟩, c13⟩, by omega⟩).trans ((pif_f (by dsimp only; omega)).trans (pif_t (by dsimp only; omega))) | exact (pif_t ⟨⟨⟨c1, c6⟩, c13⟩, by omega⟩).trans ((pif_f (by dsimp only; omega)).trans (pif_t (by dsimp only; omega)))
          ·
            refine j_aload_n hF dX7_addNode_42 rfl (j_bipush hF dX7_addNode_43 (by decide) (j_callV hF (c_X7_fail hP hE (by omega)) ms_X7_fail mv_X7_fail lk_RX7_35 dX7_addNode_45 hpt rfl rfl rfl (by simp [Value.category]) ⟨⟨(Nat.le_of_ble_eq_true rfl), (Nat.le_of_ble_eq_true rfl)⟩, by omega, by omega⟩ (fun v10 X10 hp10 hE10 => ?_)))
            obtain ⟨rfl, hP2, hF2⟩ := hp10
            refine j_iretv hF hR dX7_addNode_48 (by omega) (by omega) ?_
            refine PV ?_ (hP2.mono (by omega)) hF2 (by omega) (by omega) (by omega)
            unfold sp_addNode
            first | exact (pif_t ⟨⟨⟨c1, c6⟩, c13⟩, by omega⟩).trans (pif_t (by dsimp only; omega)) | exact (pif_t ⟨⟨⟨c1, c6⟩, c13⟩, by omega⟩).trans (pif_t (by dsimp only; omega))
        ·
          refine j_iload_n hF dX7_addNode_21 rfl (j_if_eq hF 32 dX7_addNode_22 (by decide) (by omega) (fun c22 => ?_) (fun c22 => ?_))
          ·
            refine j_aload_n hF dX7_addNode_32 rfl (j_get hF hpt fl_RX7_27 dX7_addNode_33 rfl (j_get hF h1 fl_RX7_39 dX7_addNode_36 rfl (j_if_eq hF 49 dX7_addNode_39 (by decide) (by omega) (fun c39 => ?_) (fun c39 => ?_))))
            ·
              refine j_aload_n hF dX7_addNode_49 rfl (j_get hF hpt fl_RX7_27 dX7_addNode_50 rfl (j_get hF h1 fl_RX7_43 dX7_addNode_53 rfl (j_get hF hGP.1 fl_RX7_47 dX7_addNode_56 rfl (j_bipush hF dX7_addNode_59 (by decide) (j_icmp_lt hF 71 dX7_addNode_61 (by decide) (by omega) (fun c61 => ?_) (fun c61 => ?_))))))
              ·
                refine j_aload_n hF dX7_addNode_71 rfl (j_callVv hF (c_X7_save hO ⟨hea, hWR, hS, hV, hQ⟩ hsv hGV.1 hA hI (by omega) h02 hC) ms_X7_save mv_X7_save lk_RX7_53 dX7_addNode_72 hpt rfl rfl rfl (by simp [Value.category]) ⟨⟨(Nat.le_of_ble_eq_true rfl), (Nat.le_of_ble_eq_true rfl)⟩, by omega, by omega⟩ (fun v11 X11 k11 n11 hp11 hE11 => ?_))
                obtain ⟨rfl, kr2, hO, ⟨hea, hWR, hS, hV, hQ⟩, hFF, hb1, hb2, hb3⟩ := hp11
                have hkl2 := hO.le
                have hpt := hO.pt.1
                have h1 := hS.o1
                obtain ⟨yl, hyo⟩ := hWR.obj
                refine j_aload_n hF dX7_addNode_75 rfl (j_get hF hpt fl_RX7_22 dX7_addNode_76 rfl (j_callV hF (c_X5_forgets hWR (m_node r d i)) ms_X5_forget mv_X5_forget lk_RX7_56 dX7_addNode_79 hyo rfl rfl rfl (by simp [Value.category]) ⟨⟨(Nat.le_of_ble_eq_true rfl), (Nat.le_of_ble_eq_true rfl)⟩, by omega, by omega⟩ (fun v12 X12 hp12 hE12 => ?_)))
                obtain ⟨rfl, hWR, hFy⟩ := hp12
                have hO := hO.keep hFy (by omega)
                have hpt := hO.pt.1
                have hea := hFy _ _ _ hea (by omega)
                have hS := hS.keep hFy (by omega)
                have hV := hV.keep hFy (by omega)
                have hQ := hQ.keep hFy (by omega)
                have h1 := hS.o1
                have hFF := hFF.trans (hFy.mono (by omega) (by omega))
                refine j_aload_n hF dX7_addNode_82 rfl (j_get hF hpt fl_RX7_27 dX7_addNode_83 rfl (j_iload_n hF dX7_addNode_86 rfl (j_iload_n hF dX7_addNode_87 rfl (j_iconst hF dX7_addNode_88 (j_icmp_ne hF 96 dX7_addNode_89 (by decide) (by omega) (fun c89 => ?_) (fun c89 => ?_))))))
                ·
                  obtain rfl : i = 0 := by omega
                  refine j_iconst hF dX7_addNode_96 (j_callVv hF (c_X2_appendNode (zi := 0) (N := N) ⟨g, ml, ws, va, qa, oe, dc, v_, q_, n_, m_, z_, f_, hS, hV, hQ, rfl⟩ hGV hA hI (by omega) ⟨b0.1, by omega⟩ (by omega) (by omega)) ms_X2_appendNode mv_X2_appendNode lk_RX7_59 dX7_addNode_97 h1 rfl rfl rfl (by simp [Value.category]) ⟨⟨(Nat.le_of_ble_eq_true rfl), (Nat.le_of_ble_eq_true rfl)⟩, by omega, by omega⟩ (fun v13 X13 k13 n13 hp13 hE13 => ?_))
                  obtain ⟨rfl, kna, hSTa, hFqa, hq1a, hq2a, hq3a⟩ := hp13
                  have hq4a := hSTa.le
                  have hO := hO.keep hFqa (by omega)
                  have hpt := hO.pt.1
                  obtain ⟨ola, h1⟩ := hSTa.obj
                  have hea := hFqa _ _ _ hea (by omega)
                  have hFF := hFF.trans (hFqa.mono (by omega) (by omega))
                  refine j_iretv hF hR dX7_addNode_100 (by omega) (by omega) ?_
                  have hWR := hWR.keep hFqa (by omega)
                  have hP2 := PP.mk hO hea hWR (c := ct + 1) (by omega) hSTa
                  refine PV ?_ hP2 hFF (by omega) (by omega) (by omega)
                  unfold sp_addNode
                  first
                  | exact (pif_t ⟨⟨⟨c1, c6⟩, c13⟩, by omega⟩).trans ((pif_f (by dsimp only; omega)).trans (pif_f (by dsimp only; omega)))
                  | exact (pif_t ⟨⟨⟨c1, c6⟩, c13⟩, by omega⟩).trans ((pif_f (by dsimp only; omega)).trans (pif_f (by dsimp only; omega)))
                ·
                  obtain rfl : i = 1 := c89
                  refine j_iconst hF dX7_addNode_92 (j_goto hF 97 dX7_addNode_93 (by decide) (j_callVv hF (c_X2_appendNode (zi := 1) (N := N) ⟨g, ml, ws, va, qa, oe, dc, v_, q_, n_, m_, z_, f_, hS, hV, hQ, rfl⟩ hGV hA hI (by omega) ⟨b0.1, by omega⟩ (by omega) (by omega)) ms_X2_appendNode mv_X2_appendNode lk_RX7_59 dX7_addNode_97 h1 rfl rfl rfl (by simp [Value.category]) ⟨⟨(Nat.le_of_ble_eq_true rfl), (Nat.le_of_ble_eq_true rfl)⟩, by omega, by omega⟩ (fun v14 X14 k14 n14 hp14 hE14 => ?_)))
                  obtain ⟨rfl, kna, hSTa, hFqa, hq1a, hq2a, hq3a⟩ := hp14
                  have hq4a := hSTa.le
                  have hO := hO.keep hFqa (by omega)
                  have hpt := hO.pt.1
                  obtain ⟨ola, h1⟩ := hSTa.obj
                  have hea := hFqa _ _ _ hea (by omega)
                  have hFF := hFF.trans (hFqa.mono (by omega) (by omega))
                  refine j_iretv hF hR dX7_addNode_100 (by omega) (by omega) ?_
                  have hWR := hWR.keep hFqa (by omega)
                  have hP2 := PP.mk hO hea hWR (c := ct + 1) (by omega) hSTa
                  refine PV ?_ hP2 hFF (by omega) (by omega) (by omega)
                  unfold sp_addNode
                  first
                  | exact (pif_t ⟨⟨⟨c1, c6⟩, c13⟩, by omega⟩).trans ((pif_f (by dsimp only; omega)).trans (pif_f (by dsimp only; omega)))
                  | exact (pif_t ⟨⟨⟨c1, c6⟩, c13⟩, by omega⟩).trans ((pif_f (by dsimp only; omega)).trans (pif_f (by dsimp only; omega)))
              ·
                refine j_aload_n hF dX7_addNode_64 rfl (j_bipush hF dX7_addNode_65 (by decide) (j_callV hF (c_X7_fail hP hE (by omega)) ms_X7_fail mv_X7_fail lk_RX7_35 dX7_addNode_67 hpt rfl rfl rfl (by simp [Value.category]) ⟨⟨(Nat.le_of_ble_eq_true rfl), (Nat.le_of_ble_eq_true rfl)⟩, by omega, by omega⟩ (fun v15 X15 hp15 hE15 => ?_)))
                obtain ⟨rfl, hP2, hF2⟩ := hp15
                refine j_iretv hF hR dX7_addNode_70 (by omega) (by omega) ?_
                refine PV ?_ (hP2.mono (by omega)) hF2 (by omega) (by omega) (by omega)
                unfold sp_addNode
                first | exact (pif_t ⟨⟨⟨c1, c6⟩, c13⟩, by omega⟩).trans ((pif_f (by dsimp only; omega)).trans (pif_t (by dsimp only; omega))) | exact (pif_t ⟨⟨⟨c1, c6⟩, c13⟩, by omega⟩).trans ((pif_f (by dsimp only; omega)).trans (pif_t (by dsimp only; omega)))
            ·
              refine j_aload_n hF dX7_addNode_42 rfl (j_bipush hF dX7_addNode_43 (by decide) (j_callV hF (c_X7_fail hP hE (by omega)) ms_X7_fail mv_X7_fail lk_RX7_35 dX7_addNode_45 hpt rfl rfl rfl (by simp [Value.category]) ⟨⟨(Nat.le_of_ble_eq_true rfl), (Nat.le_of_ble_eq_true rfl)⟩, by omega, by omega⟩ (fun v16 X16 hp16 hE16 => ?_)))
              obtain ⟨rfl, hP2, hF2⟩ := hp16
              refine j_iretv hF hR dX7_addNode_48 (by omega) (by omega) ?_
              refine PV ?_ (hP2.mono (by omega)) hF2 (by omega) (by omega) (by omega)
              unfold sp_addNode
              first | exact (pif_t ⟨⟨⟨c1, c6⟩, c13⟩, by omega⟩).trans (pif_t (by dsimp only; omega)) | exact (pif_t ⟨⟨⟨c1, c6⟩, c13⟩, by omega⟩).trans (pif_t (by dsimp only; omega))
          ·
            refine j_aload_n hF dX7_addNode_25 rfl (j_bipush hF dX7_addNode_26 (by decide) (j_callV hF (c_X7_fail hP hE (by omega)) ms_X7_fail mv_X7_fail lk_RX7_35 dX7_addNode_28 hpt rfl rfl rfl (by simp [Value.category]) ⟨⟨(Nat.le_of_ble_eq_true rfl), (Nat.le_of_ble_eq_true rfl)⟩, by omega, by omega⟩ (fun v17 X17 hp17 hE17 => ?_)))
            obtain ⟨rfl, hP2, hF2⟩ := hp17
            refine j_iretv hF hR dX7_addNode_31 (by omega) (by omega) ?_
            refine PV ?_ (hP2.mono (by omega)) hF2 (by omega) (by omega) (by omega)
            unfold sp_addNode
            first | exact pif_f (fun h => absurd h.1.1.1 (Int.not_le.mpr c1)) | exact pif_f (fun h => absurd h.1.1.2 (Int.not_le.mpr c6)) | exact pif_f (fun h => c13 h.1.2) | exact pif_f (fun h => h.2 ⟨c18, c22⟩)

