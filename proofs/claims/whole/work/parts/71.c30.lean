set_option maxRecDepth 100000 in
set_option maxHeartbeats 4000000 in
theorem c_X7_save {X : Hp} {pt sa : Nat} {sv : Int} {pf : Int → Int} {kr : Nat} {y ea mk B st g ml ws va qa oe dc : Nat} {er : Int → Int} {gn : Int} {v_ q_ n_ m_ : Int → Nat} {z_ f_ r : Int → Int} (hO : OT X pt ea sa y st B sv pf kr) (hNB : NB X y ea er mk gn B st g ml ws va qa oe dc v_ q_ n_ m_ z_ f_ r) (hs : 0 ≤ sv ∧ sv ≤ 3) (hG : GI r) (hA : AS r) {N : Int} (hI : RI r N) (hN : N < 8192) (h02 : r 2 = 0 ∨ r 2 = 1) (hC : CAN r)  : Cv yX7_save cX7_save 1 none 5 117 [.ref pt] X (290316 - kr) (6 * (290316 - kr)) (fun rv X' kk nn => rv = none ∧ ∃ kr', OT X' pt ea sa y st B (sv_n sv) (sv_p r pf sv) kr' ∧ NB X' y ea er mk gn B st g ml ws va qa oe dc v_ q_ n_ m_ z_ f_ r ∧ FB 0 5000 X X' ∧ kr ≤ kr' ∧ kk ≤ kr' - kr ∧ nn ≤ 6 * (kr' - kr)) := by
  refine Cv.of (by decide +kernel) [some (.ref pt)] rfl (Nat.le_of_ble_eq_true rfl) (fun φ hF hR => ?_)
  have hLB := hO.pt.2
  unfold LB at hLB
  have hkl := hO.le
  have J12 : ∀ (Y : Hp) (sv1 : Int) (pf1 : Int → Int), OT Y pt ea sa y st B sv1 pf1 kr → NB Y y ea er mk gn B st g ml ws va qa oe dc v_ q_ n_ m_ z_ f_ r → FB 0 5000 X Y → 0 ≤ sv1 ∧ sv1 < 3 → sv_n sv = sv1 + 1 → sv_p r pf sv = cpk pf1 (54743 * sv1) r 54743 → Jd φ Y 0 0 12 [some (.ref pt)] [] := by
    intro Y sv1 pf1 hO hNB hFY hs1 hq1 hq2
    obtain ⟨ad, bs, kp, fs, rw_, hp, ha, hLB, h4, h5, h6, h7⟩ := id hO
    have hB0 := hLB
    unfold LB at hB0
    have hb1 := (h4 sv1 hs1.1 hs1.2).2.1
    unfold LB at hb1
    have hkl := (h4 sv1 hs1.1 hs1.2).2.2.le
    have hkp : kp sv1 + (kr - kp sv1) = kr ∧ kr - kp sv1 ≤ 193544 := by
      have a0 := (h4 0 (by omega) (by omega)).2.2.le
      have a1 := (h4 1 (by omega) (by omega)).2.2.le
      have a2 := (h4 2 (by omega) (by omega)).2.2.le
      rcases (show sv1 = 0 ∨ sv1 = 1 ∨ sv1 = 2 by omega) with rfl | rfl | rfl
      · omega
      · omega
      · omega
    obtain ⟨ol, hob⟩ := (h4 sv1 hs1.1 hs1.2).2.2.obj
    refine j_aload_n hF dX7_save_12 rfl (j_get hF hp fl_RX7_15 dX7_save_13 rfl (j_aload_n hF dX7_save_16 rfl (j_get hF hp fl_RX7_232 dX7_save_17 rfl (j_aald hF (by decide) ha dX7_save_20 (by omega) (h4 sv1 hs1.1 hs1.2).1 (j_aload_n hF dX7_save_21 rfl ?_)))))
    refine j_get hF hp fl_RX7_27 dX7_save_22 rfl (j_callVv hF (c_X2_copyFrom (h4 sv1 hs1.1 hs1.2).2.2 ⟨g, ml, ws, va, qa, oe, dc, v_, q_, n_, m_, z_, f_, hNB.2.2.1, hNB.2.2.2.1, hNB.2.2.2.2, rfl⟩ (by omega) hG hA hI hN h02) ms_X2_copyFrom mv_X2_copyFrom lk_RX7_284 dX7_save_25 hob rfl rfl rfl (by simp [Value.category]) ⟨⟨(Nat.le_of_ble_eq_true rfl), (Nat.le_of_ble_eq_true rfl)⟩, by omega, by omega⟩ (fun v1 X1 k1 n1 hp1 hE1 => ?_))
    obtain ⟨rfl, k2, hSn, hFn, hk1, hk2, hk3⟩ := hp1
    have hk4 := hSn.le
    have hp := hFn _ _ _ hp (by omega)
    have ha := hFn _ _ _ ha (by omega)
    refine j_aload_n hF dX7_save_28 rfl (j_dup hF dX7_save_29 rfl (j_get hF hp fl_RX7_232 dX7_save_30 rfl (j_iconst hF dX7_save_33 (j_iadd hF dX7_save_34 (j_put hF hp fl_RX7_232 dX7_save_35 rfl rfl (Nat.le_of_ble_eq_true rfl) (j_nm (fun X2 eX2 => ?_)))))))
    have hFp : FB 0 1 X1 X2 := FB.up eX2 hp (by omega) (by omega)
    have hp := ups eX2
    have ha := hFp _ _ _ ha (by omega)
    refine j_vretv hF hR dX7_save_38 (by omega) (by omega) ?_
    have hoth : ∀ i, 0 ≤ i → i < 3 → ¬ i = sv1 → ST X2 (bs i) (ad i) (kp i) (rw_ i) := by
      intro i i1 i2 qi
      have w1 := (h4 i i1 i2).2.1.1
      unfold LB at w1
      have w2 : ¬ bs i = bs sv1 := by
        rcases (show i < sv1 ∨ sv1 < i by omega) with e | e
        · exact h5 i sv1 i1 e hs1.2
        · exact fun e2 => h5 sv1 i hs1.1 e i2 e2.symm
      exact ((h4 i i1 i2).2.2.keep hFn (by omega)).keep hFp (by omega)
    obtain ⟨kr2, hO2, hkr⟩ := OT.put (X' := X2) (pf := pf1) (kr := kr) (k' := k2) (kp := kp) (rw_ := rw_) hC hs1 hp ha hLB (fun i i1 i2 => ⟨(h4 i i1 i2).1, (h4 i i1 i2).2.1, hoth i i1 i2⟩) (hSn.keep hFp (by omega)) h5 h6 h7
    rw [hq2, hq1]
    exact ⟨rfl, kr2, hO2, (hNB.keep hFn (by omega) (by omega)).keep hFp (by omega) (by omega), (hFY.trans (hFn.mono (by omega) (by omega))).trans (hFp.mono (by omega) (by omega)), by omega, by omega, by omega⟩
  refine j_aload_n hF dX7_save_0 rfl (j_get hF hO.pt.1 fl_RX7_232 dX7_save_1 rfl (j_iconst hF dX7_save_4 (j_icmp_ne hF 12 dX7_save_5 (by decide) (by omega) (fun c5 => ?_) (fun c5 => ?_))))
  ·
    first
    | exact J12 _ sv pf hO hNB (FB.refl _ _ X) (by omega) (by unfold sv_n; rw [if_neg c5]) (by unfold sv_p; rw [if_neg c5, if_neg c5])
    | exact J12 _ 2 (shk pf 109486) hO2 ((hNB.keep hFa (by omega) (by omega)).keep hFb (by omega) (by omega)) ((hFa.mono (by omega) (by omega)).trans (hFb.mono (by omega) (by omega))) (by omega) (by unfold sv_n; rw [if_pos c5]; rfl) (by unfold sv_p; rw [if_pos c5, if_pos c5])
  ·
    refine j_aload_n hF dX7_save_8 rfl (j_callV hF (c_X7_dropOldest (pf := pf) (by rw [← c5]; exact hO)) ms_X7_dropOldest mv_X7_dropOldest lk_RX7_281 dX7_save_9 hO.pt.1 rfl rfl rfl (by simp [Value.category]) ⟨⟨(Nat.le_of_ble_eq_true rfl), (Nat.le_of_ble_eq_true rfl)⟩, by omega, by omega⟩ (fun v1 X1 hp1 hE1 => ?_))
    obtain ⟨rfl, hO2, Xm, hFa, hFb⟩ := hp1
    first
    | exact J12 _ sv pf hO hNB (FB.refl _ _ X) (by omega) (by unfold sv_n; rw [if_neg c5]) (by unfold sv_p; rw [if_neg c5, if_neg c5])
    | exact J12 _ 2 (shk pf 109486) hO2 ((hNB.keep hFa (by omega) (by omega)).keep hFb (by omega) (by omega)) ((hFa.mono (by omega) (by omega)).trans (hFb.mono (by omega) (by omega))) (by omega) (by unfold sv_n; rw [if_pos c5]; rfl) (by unfold sv_p; rw [if_pos c5, if_pos c5])

set_option maxRecDepth 100000 in
set_option maxHeartbeats 4000000 in
theorem c_X7_beginEvent {X : Hp} {pt sa : Nat} {sv : Int} {pf : Int → Int} {kr : Nat} {y ea mk B st g ml ws va qa oe dc : Nat} {er : Int → Int} {gn : Int} {v_ q_ n_ m_ : Int → Nat} {z_ f_ r : Int → Int} (hO : OT X pt ea sa y st B sv pf kr) (hNB : NB X y ea er mk gn B st g ml ws va qa oe dc v_ q_ n_ m_ z_ f_ r) (hs : 0 ≤ sv ∧ sv ≤ 3) (hG : GI r) (hA : AS r) {N : Int} (hI : RI r N) (hN : N < 8192) (h02 : r 2 = 0 ∨ r 2 = 1) (hC : CAN r)  : Cv yX7_beginEvent cX7_beginEvent 1 none 6 137 [.ref pt] X (290316 - kr) (6 * (290316 - kr)) (fun rv X' kk nn => rv = none ∧ ∃ kr', OT X' pt ea sa y st B (sv_n sv) (sv_p r pf sv) kr' ∧ NB X' y ea er mk gn B st g ml ws va qa oe dc v_ q_ n_ m_ z_ f_ (fu r 2 1) ∧ FB 0 5000 X X' ∧ kr ≤ kr' ∧ kk ≤ kr' - kr ∧ nn ≤ 6 * (kr' - kr)) := by
  refine Cv.of (by decide +kernel) [some (.ref pt)] rfl (Nat.le_of_ble_eq_true rfl) (fun φ hF hR => ?_)
  have hLB := hO.pt.2
  unfold LB at hLB
  have hkl0 := hO.le
  refine j_aload_n hF dX7_beginEvent_0 rfl (j_callVv hF (c_X7_save hO hNB hs hG hA hI hN h02 hC) ms_X7_save mv_X7_save lk_RX7_53 dX7_beginEvent_1 hO.pt.1 rfl rfl rfl (by simp [Value.category]) ⟨⟨(Nat.le_of_ble_eq_true rfl), (Nat.le_of_ble_eq_true rfl)⟩, by omega, by omega⟩ (fun v1 X1 k1 n1 hp1 hE1 => ?_))
  obtain ⟨rfl, kr2, hO, hNB, hFF, hk1, hk2, hk3⟩ := hp1
  have hkl := hO.le
  refine j_aload_n hF dX7_beginEvent_4 rfl (j_get hF hO.pt.1 fl_RX7_27 dX7_beginEvent_5 rfl (j_iconst hF dX7_beginEvent_8 (j_put hF hNB.2.2.1.o1 fl_RX7_39 dX7_beginEvent_9 rfl rfl (Nat.le_of_ble_eq_true rfl) (j_nm (fun X2 eX2 => ?_)))))
  have hFs : FB B (B + 10) X1 X2 := FB.up eX2 hNB.2.2.1.o1 (by omega) (by omega)
  have hNB2 : NB X2 y ea er mk gn B st g ml ws va qa oe dc v_ q_ n_ m_ z_ f_ (fu r 2 1) := ⟨hFs _ _ _ hNB.1 (by omega), (hNB.2.1.keep hFs (by omega)).row hG (fun i _ _ _ _ => fu_n (by omega)), hNB.2.2.1.st hG hA hFs (by rw [fu_s, fu_n (by omega), fu_n (by omega)]; exact ups eX2) (fun i _ _ => fu_n (by omega)), (hNB.2.2.2.1.keep hFs (by omega)).row (fun i i1 => fu_n (by omega)), (hNB.2.2.2.2.keep hFs (by omega)).row (fun i i1 _ => fu_n (by omega))⟩
  refine j_vretv hF hR dX7_beginEvent_12 (by omega) (by omega) ?_
  exact ⟨rfl, kr2, hO.keep hFs (by omega), hNB2, hFF.trans (hFs.mono (by omega) (by omega)), hk1, by omega, by omega⟩

