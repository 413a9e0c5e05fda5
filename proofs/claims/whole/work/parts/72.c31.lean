theorem GI.b {r : Int → Int} (h : GI r) : GI (fu r 2 1) := h.eq (fun i _ _ h2 _ _ _ => fu_n h2)
theorem AS.b {r : Int → Int} (h : AS r) : AS (fu r 2 1) := h.row (fun i _ _ => fu_n (by omega))
theorem RI_b {r : Int → Int} {N : Int} (h : RI r N) : RI (fu r 2 1) N := h.row (fun i _ _ => fu_n (by omega))
/-- rows that agree but for the started flag -/
def AG (f g : Int → Int) : Prop := ∀ i, ¬ i = 2 → f i = g i
theorem AG.b (r : Int → Int) : AG (fu r 2 1) r := fun _ h => fu_n h
theorem AG.st {f g : Int → Int} (h : AG f g) {a a' x x' : Int} (e1 : a = a') (e2 : x = x') : AG (fu f a x) (fu g a' x') := fun i hi => by
  subst e1; subst e2
  unfold fu
  split
  · rfl
  · exact h i hi
theorem AG.upd {f g : Int → Int} (h : AG f g) {w p t c : Int} (hw : 0 ≤ w ∧ w ≤ 1) (hp : 0 ≤ p) (ht : 0 ≤ t) (hz : 0 ≤ f (357 + (1 - w))) : m_upd f w p t c = m_upd g w p t c := by
  have h1 : AG (fu f (6359 + 1000 * (16 * w + p) + t) (f (6359 + 1000 * (16 * w + p) + t) + c)) (fu g (6359 + 1000 * (16 * w + p) + t) (g (6359 + 1000 * (16 * w + p) + t) + c)) := h.st rfl (by rw [h _ (by omega)])
  have e1 := h1 (357 + (1 - w)) (by omega)
  have h2 := h1.st (a := 38359 + 8192 * (1 - w) + (fu f (6359 + 1000 * (16 * w + p) + t) (f (6359 + 1000 * (16 * w + p) + t) + c)) (357 + (1 - w))) (a' := 38359 + 8192 * (1 - w) + (fu g (6359 + 1000 * (16 * w + p) + t) (g (6359 + 1000 * (16 * w + p) + t) + c)) (357 + (1 - w))) (x := 2 * (1000 * p + t) + (if 0 < c then 1 else 0)) (by rw [e1]) rfl
  have e2 := h2 (357 + (1 - w)) (by omega)
  have h3 := h2.st (a := 357 + (1 - w)) rfl (congrArg (fun z => z + 1) e2)
  funext i
  unfold m_upd
  by_cases q : i = 2
  · rw [q, fu_s, fu_s]
  · rw [fu_n q, fu_n q]; exact h3 i q
theorem AG.put {f g : Int → Int} (h : AG f g) {w e t : Int} (hw : 0 ≤ w ∧ w ≤ 1) (he : 0 ≤ e ∧ e < 10) : AG (m_put f w e t) (m_put g w e t) := by
  have h1 := h.st (a := 67 + 12 * (10 * w + e) + f (47 + (10 * w + e))) (a' := 67 + 12 * (10 * w + e) + g (47 + (10 * w + e))) (x := t) (by rw [h _ (by omega)]) rfl
  exact h1.st rfl (by rw [h1 _ (by omega)])
theorem PP.mk {X : Hp} {pt ea sa y st B mk kn kr : Nat} {gn c sv : Int} {r pf er : Int → Int} (hO : OT X pt ea sa y st B sv pf kr) (hea : X ea = some (1, ia 0 4 er)) (hWR : WR X 100 y mk gn r) (hgn : gn ≤ 1 + c) (hST : ST X B st kn r) : PP X pt (kn + kr + 5067 * mk) c (r, pf, sv, er) := ⟨ea, sa, y, st, B, mk, gn, kn, kr, hO, hea, hWR, hgn, hST, rfl⟩
theorem SG.upd {r : Int → Int} {N w p t c : Int} (h : RI r N) (hw : 0 ≤ w ∧ w ≤ 1) (hp : 0 ≤ p ∧ p < 16) (ht : 0 ≤ t ∧ t ≤ 999) : SG r (m_upd r w p t c) := fun i _ i2 i3 _ => m_upd_lo h hw hp ht (by omega) (by omega)
theorem SG.b (r : Int → Int) : SG r (fu r 2 1) := fun i _ _ h _ => fu_n (by omega)
set_option maxRecDepth 100000 in
set_option maxHeartbeats 4000000 in
theorem c_X7_send {X : Hp} {pt kap : Nat} {ct : Int} {r pf : Int → Int} {sv : Int} {er : Int → Int} (hP : PP X pt kap ct (r, pf, sv, er)) (hGV : GV r) (hE : EI er)  {e w : Int} (hsv : 0 ≤ sv ∧ sv ≤ 3) (hA : AS r) {N : Int} (hI : RI r N) (hN : N + 12 < 6145) (h02 : r 2 = 0 ∨ r 2 = 1) (hC : CAN r) (hm : RM2 r) (ho : EO r) (h_e : -2147483648 ≤ e ∧ e ≤ 2147483647) (h_w : -2147483648 ≤ w ∧ w ≤ 2147483647) : Cv yX7_send cX7_send 5 (some .int) 7 167 [.ref pt, vi e, vi w] X (393155 - kap) (6 * (393155 - kap)) (fun rv X' kk nn => rv = some (vi (sp_send (r, pf, sv, er) e w).1) ∧ PPQ X X' pt kap (ct + 1) (sp_send (r, pf, sv, er) e w).2 kk nn) := by
  refine Cv.of (by decide +kernel) [some (.ref pt), some (vi e), some (vi w), none, none] rfl (Nat.le_of_ble_eq_true rfl) (fun φ hF hR => ?_)
  obtain ⟨ea, sa, y, st, B, mk, gn, kn, kr, hO, hea, hWR, hgn, hST, hkap⟩ := id hP
  dsimp only at hO hea hWR hST
  obtain ⟨g, ml, ws, va, qa, oe, dc, v_, q_, n_, m_, z_, f_, hS, hV, hQ, hk_⟩ := id hST
  obtain ⟨av, aq, ao, af, h1, ⟨ga, gb, gc, gd, nc, ec, jd, js, je, jk, hGP, hGE⟩, ⟨mz, mt, yz, yt, hMP, x1, x2⟩, ⟨wz, wt, uz, ut, hWP, x3⟩, h5, h6, h7, h8, h9, h10, h11⟩ := id hS
  obtain ⟨g1, g1'⟩ := id hGE.1
  subst g1
  subst g1'
  have hpt := hO.pt.1
  have hLB := hO.pt.2
  unfold LB at hLB
  have b0 := hGV.1.1
  have b1 := hGV.1.2.1
  have hP2 := hP
  have hF2 := FB.refl 0 5000 X
  have hl1 := hST.le
  have hl2 := hO.le
  have hl3 := hWR.mk
  have hl4 : kpo n_ m_ = kn := hk_.symm
  refine j_aload_n hF dX7_send_0 rfl (j_get hF hpt fl_RX7_27 dX7_send_1 rfl (j_get hF h1 fl_RX7_43 dX7_send_4 rfl (j_iload_n hF dX7_send_7 rfl (j_callV hF (c_X0_hasEdge hGP (by omega) (by omega)) ms_X0_hasEdge mv_X0_hasEdge lk_RX7_80 dX7_send_8 hGP.1 rfl rfl rfl (by simp [Value.category]) ⟨⟨(Nat.le_of_ble_eq_true rfl), (Nat.le_of_ble_eq_true rfl)⟩, by omega, by omega⟩ (fun v1 X1 hp1 hE1 => ?_)))))
  obtain ⟨rfl, he1⟩ := hp1; obtain rfl := he1.symm
  refine j_b_eq hF 21 dX7_send_11 (by decide) (fun c11 => ?_) (fun c11 => ?_)
  ·
    refine j_aload_n hF dX7_send_21 rfl (j_bipush hF dX7_send_22 (by decide) (j_callV hF (c_X7_fail hP hE (by omega)) ms_X7_fail mv_X7_fail lk_RX7_35 dX7_send_24 hpt rfl rfl rfl (by simp [Value.category]) ⟨⟨(Nat.le_of_ble_eq_true rfl), (Nat.le_of_ble_eq_true rfl)⟩, by omega, by omega⟩ (fun v2 X2 hp2 hE2 => ?_)))
    obtain ⟨rfl, hP2, hF2⟩ := hp2
    refine j_iretv hF hR dX7_send_27 (by omega) (by omega) ?_
    refine PV ?_ (hP2.mono (by omega)) hF2 (by omega) (by omega) (by omega)
    unfold sp_send
    first | exact pif_f (fun h => c11 h.1) | exact pif_f (fun h => c18 h.2)
  ·
    refine j_iload_n hF dX7_send_14 rfl (j_callS hF (c_X7_isWorker (by omega)) ms_X7_isWorker mt_X7_isWorker lk_RX7_111 dX7_send_15 rfl rfl rfl (by simp [Value.category]) ⟨⟨(Nat.le_of_ble_eq_true rfl), (Nat.le_of_ble_eq_true rfl)⟩, by omega, by omega⟩ (fun v3 X3 hp3 hE3 => ?_))
    obtain ⟨rfl, he3⟩ := hp3; obtain rfl := he3.symm
    refine j_b_ne hF 28 dX7_send_18 (by decide) (fun c18 => ?_) (fun c18 => ?_)
    ·
      refine j_aload_n hF dX7_send_28 rfl (j_get hF hpt fl_RX7_27 dX7_send_29 rfl (j_get hF h1 fl_RX7_114 dX7_send_32 rfl (j_aload_n hF dX7_send_35 rfl (j_get hF hpt fl_RX7_27 dX7_send_36 rfl (j_get hF h1 fl_RX7_43 dX7_send_39 rfl ?_)))))
      refine j_get hF hGP.1 fl_RX7_117 dX7_send_42 rfl (j_iload_n hF dX7_send_45 rfl (j_iald hF hGP.2.2.1 dX7_send_46 (by omega) (fun ra4 rb4 => ?_)))
      have e1 := hGE.2.2 e c11.1 (by omega)
      have e2 := (hGV.1.ed e c11.1 (by omega)).1
      have e3 := ho _ e2.1 e2.2
      rw [e1.1]
      refine j_iald hF h7 dX7_send_47 (by omega) (fun ra5 rb5 => ?_)
      rw [h10 _ e2.1 e2.2]
      refine j_istore_n hF dX7_send_48 (Nat.le_of_ble_eq_true rfl) rfl (j_iload_n hF dX7_send_49 rfl (j_if_ge hF 60 dX7_send_50 (by decide) (by omega) (fun c50 => ?_) (fun c50 => ?_)))
      ·
        refine j_aload_n hF dX7_send_60 rfl (j_get hF hpt fl_RX7_27 dX7_send_61 rfl (j_get hF h1 fl_RX7_120 dX7_send_64 rfl (j_iload_n hF dX7_send_67 rfl (j_iload_n hF dX7_send_68 rfl (j_callV hF (c_X1_isFull hMP c18 (by omega) (by rw [x1 _ (by omega) (by omega)]; exact hm _ (by omega) (by omega))) ms_X1_isFull mv_X1_isFull lk_RX7_124 dX7_send_69 hMP.1 rfl rfl rfl (by simp [Value.category]) ⟨⟨(Nat.le_of_ble_eq_true rfl), (Nat.le_of_ble_eq_true rfl)⟩, by omega, by omega⟩ (fun v6 X6 hp6 hE6 => ?_))))))
        obtain ⟨rfl, he6⟩ := hp6; obtain rfl := he6.symm
        rw [x1 _ (by omega) (by omega)]
        refine j_b_eq hF 82 dX7_send_72 (by decide) (fun c72 => ?_) (fun c72 => ?_)
        ·
          refine j_aload_n hF dX7_send_82 rfl (j_callVv hF (c_X7_beginEvent hO ⟨hea, hWR, hS, hV, hQ⟩ hsv hGV.1 hA hI (by omega) h02 hC) ms_X7_beginEvent mv_X7_beginEvent lk_RX7_129 dX7_send_83 hpt rfl rfl rfl (by simp [Value.category]) ⟨⟨(Nat.le_of_ble_eq_true rfl), (Nat.le_of_ble_eq_true rfl)⟩, by omega, by omega⟩ (fun v7 X7 k7 n7 hp7 hE7 => ?_))
          obtain ⟨rfl, kr2, hO, ⟨hea, hWR, hS, hV, hQ⟩, hFF, hb1, hb2, hb3⟩ := hp7
          have hkl2 := hO.le
          have hpt := hO.pt.1
          have h1 := hS.o1
          refine j_bipush hF dX7_send_86 (by decide) (j_iload_n hF dX7_send_88 rfl (j_imul hF dX7_send_89 (j_istore hF dX7_send_90 (Nat.le_of_ble_eq_true rfl) rfl ?_)))
          have hm0 := hm (10 * w + e) (by omega) (by omega)
          have hm1 : (fu r 2 1) (47 + (10 * w + e)) = r (47 + (10 * w + e)) := fu_n (by omega)
          have hm2 : 0 ≤ (fu r 2 1) (47 + (10 * w + e)) ∧ (fu r 2 1) (47 + (10 * w + e)) < 12 := by rw [hm1]; omega
          have hRp : RI (m_put (fu r 2 1) w e (100 * r (11 + r (17 + e)))) N := (RI_b hI).row (fun i i1 i2 => mp_o c18 ⟨c11.1, by omega⟩ hm2 (by omega))
          refine j_aload_n hF dX7_send_92 rfl (j_get hF hpt fl_RX7_27 dX7_send_93 rfl (j_iconst hF dX7_send_96 (j_iload_n hF dX7_send_97 rfl (j_iload_n hF dX7_send_98 rfl (j_iload hF dX7_send_99 rfl ?_)))))
          refine j_callVv hF (c_X2_putMessage (N := N) (r := fu r 2 1) ⟨g, ml, ws, va, qa, oe, dc, v_, q_, n_, m_, z_, f_, hS, hV, hQ, rfl⟩ hGV.1.b hA.b (RI_b hI) (by omega) fu_s (by omega) ⟨c11.1, by omega⟩ c18 (by omega) hm2) ms_X2_putMessage mv_X2_putMessage lk_RX7_132 dX7_send_101 h1 rfl rfl rfl (by simp [Value.category]) ⟨⟨(Nat.le_of_ble_eq_true rfl), (Nat.le_of_ble_eq_true rfl)⟩, by omega, by omega⟩ (fun v8 X8 k8 n8 hp8 hE8 => ?_)
          obtain ⟨rfl, kn2, hSTn, hFq, hq1, hq2, hq3⟩ := hp8
          have hq4 := hSTn.le
          refine j_iload hF dX7_send_104 rfl (j_iretv hF hR dX7_send_106 (by omega) (by omega) ?_)
          have hsg : SG (fu r 2 1) (m_put (fu r 2 1) w e (100 * r (11 + r (17 + e)))) := fun i _ i2 _ _ => mp_o c18 ⟨c11.1, by omega⟩ hm2 (by omega)
          have hsg2 := hsg.trans (SG.upd (w := 0) (p := 6 + e) (t := (100 * r (11 + r (17 + e)))) (c := 1) hRp (by omega) (by omega) (by omega))
          have hWR := (hWR.keep hFq (by omega)).row hGV.1.b hsg2
          have hP2 := PP.mk (hO.keep hFq (by omega)) (hFq _ _ _ hea (by omega)) hWR (c := ct + 1) (by omega) hSTn
          refine PV ?_ hP2 (hFF.trans (hFq.mono (by omega) (by omega))) (by omega) (by omega) (by omega)
          unfold sp_send
          refine (pif_t ⟨c11, c18⟩).trans ((pif_f (Int.not_lt.mpr c50)).trans ((pif_f c72).trans ?_))
          unfold sp_new
          dsimp only
          rw [((AG.b r).put (w := w) (e := e) (t := (100 * r (11 + r (17 + e)))) c18 ⟨c11.1, by omega⟩).upd (by omega) (by omega) (by omega) (hRp.q (w := 1 - 0) (by omega)).1]
        ·
          refine j_aload_n hF dX7_send_75 rfl (j_bipush hF dX7_send_76 (by decide) (j_callV hF (c_X7_fail hP hE (by omega)) ms_X7_fail mv_X7_fail lk_RX7_35 dX7_send_78 hpt rfl rfl rfl (by simp [Value.category]) ⟨⟨(Nat.le_of_ble_eq_true rfl), (Nat.le_of_ble_eq_true rfl)⟩, by omega, by omega⟩ (fun v9 X9 hp9 hE9 => ?_)))
          obtain ⟨rfl, hP2, hF2⟩ := hp9
          refine j_iretv hF hR dX7_send_81 (by omega) (by omega) ?_
          refine PV ?_ (hP2.mono (by omega)) hF2 (by omega) (by omega) (by omega)
          unfold sp_send
          first | exact (pif_t ⟨c11, c18⟩).trans ((pif_f (Int.not_lt.mpr c50)).trans (pif_t c72))
      ·
        refine j_aload_n hF dX7_send_53 rfl (j_bipush hF dX7_send_54 (by decide) (j_callV hF (c_X7_fail hP hE (by omega)) ms_X7_fail mv_X7_fail lk_RX7_35 dX7_send_56 hpt rfl rfl rfl (by simp [Value.category]) ⟨⟨(Nat.le_of_ble_eq_true rfl), (Nat.le_of_ble_eq_true rfl)⟩, by omega, by omega⟩ (fun v10 X10 hp10 hE10 => ?_)))
        obtain ⟨rfl, hP2, hF2⟩ := hp10
        refine j_iretv hF hR dX7_send_59 (by omega) (by omega) ?_
        refine PV ?_ (hP2.mono (by omega)) hF2 (by omega) (by omega) (by omega)
        unfold sp_send
        first | exact (pif_t ⟨c11, c18⟩).trans (pif_t c50)
    ·
      refine j_aload_n hF dX7_send_21 rfl (j_bipush hF dX7_send_22 (by decide) (j_callV hF (c_X7_fail hP hE (by omega)) ms_X7_fail mv_X7_fail lk_RX7_35 dX7_send_24 hpt rfl rfl rfl (by simp [Value.category]) ⟨⟨(Nat.le_of_ble_eq_true rfl), (Nat.le_of_ble_eq_true rfl)⟩, by omega, by omega⟩ (fun v11 X11 hp11 hE11 => ?_)))
      obtain ⟨rfl, hP2, hF2⟩ := hp11
      refine j_iretv hF hR dX7_send_27 (by omega) (by omega) ?_
      refine PV ?_ (hP2.mono (by omega)) hF2 (by omega) (by omega) (by omega)
      unfold sp_send
      first | exact pif_f (fun h => c11 h.1) | exact pif_f (fun h => c18 h.2)

