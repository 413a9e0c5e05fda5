/-- the tracker, but for the present views and the Ways -/
def DB (X : Hp) (pt ea sa y st B g ml ws va qa oe dc : Nat) (v_ q_ m_ : Int → Nat) (f_ r : Int → Int) (sv : Int) (pf er : Int → Int) (kr : Nat) : Prop := OT X pt ea sa y st B sv pf kr ∧ X ea = some (1, ia 0 4 er) ∧ SS X B st g ml ws va qa oe dc v_ q_ r ∧ QQ X B q_ m_ f_ r
theorem DB.keep {X X1 : Hp} {pt ea sa y st B g ml ws va qa oe dc kr : Nat} {v_ q_ m_ : Int → Nat} {f_ r pf er : Int → Int} {sv : Int} (h : DB X pt ea sa y st B g ml ws va qa oe dc v_ q_ m_ f_ r sv pf er kr) {lo hi : Nat} (hF : FB lo hi X X1) (hd : (3 ≤ lo ∧ hi ≤ 1000) ∨ (B + 100 ≤ lo ∧ hi ≤ B + 200)) : DB X1 pt ea sa y st B g ml ws va qa oe dc v_ q_ m_ f_ r sv pf er kr := by
  have hb := h.1.pt.2
  unfold LB at hb
  exact ⟨h.1.keep hF (by omega), hF _ _ _ h.2.1 (by omega), h.2.2.1.keep hF (by omega), h.2.2.2.keep hF (by omega)⟩
theorem h_wk_eq (r : Int → Int) (w : Int) (h : Int64) : h_view r w (h_not r w (r 0).toNat (h_mail r w (r 1).toNat h)) = h_wk r w h := rfl
theorem hf_nx {f : Int → Int} {n : Nat} {h : Int64} {c v : Int} (hc : (n : Int) = c) (hv : f c = v) : mx (hf f n h) v = hf f (n + 1) h := by
  subst hc; subst hv; rfl
set_option maxRecDepth 100000 in
set_option maxHeartbeats 4000000 in
theorem c_X7_markFrontier {X : Hp} {pt ea sa y st B g ml ws va qa oe dc kr : Nat} {v_ q_ m_ : Int → Nat} {f_ r pf er : Int → Int} {sv : Int} (hD : DB X pt ea sa y st B g ml ws va qa oe dc v_ q_ m_ f_ r sv pf er kr) (hGV : GV r) (hvd : VDv r) {mk : Nat} {gn : Int} (hWR : WR X 100 y mk gn r) (hgn : gn ≤ 100000) {s cc k nv : Nat} {sz : Int} {fs fv fk : Int → Int} {w : Int} (hw : 0 ≤ w ∧ w ≤ 1) (hVP : VP X (B + 100 + 10 * w.toNat) (v_ w) s cc k nv sz fs fv fk) (hVI : VI nv sz fs fv (fun x => r (6359 + 16000 * w + x))) (hn : nv ≤ 32002) {nu : Nat} {zu : Int} (hVo : VR X (B + 100 + 10 * (1 - w).toNat) (v_ (1 - w)) nu zu (fun x => r (6359 + 16000 * (1 - w) + x))) : Cv yX7_markFrontier cX7_markFrontier 4 (some .int) 6 146 [.ref pt, .ref (v_ w)] X (4 * (1 - mk)) (30400 * (1 - mk)) (fun rv X' kk nn => rv = some (vi (cf (oF r w) 16000)) ∧ ∃ fk' mk', DB X' pt ea sa y st B g ml ws va qa oe dc v_ q_ m_ f_ r sv pf er kr ∧ VP X' (B + 100 + 10 * w.toNat) (v_ w) s cc k nv sz fs fv fk' ∧ (∀ i, 0 ≤ i → i < sz → fk' i = bz (onF r w (fs i))) ∧ VR X' (B + 100 + 10 * (1 - w).toNat) (v_ (1 - w)) nu zu (fun x => r (6359 + 16000 * (1 - w) + x)) ∧ mk ≤ mk' ∧ WR X' 100 y mk' gn r ∧ FB 0 5000 X X' ∧ kk ≤ 4 * (mk' - mk) ∧ nn ≤ 30400 * (mk' - mk)) := by
  refine Cv.of (by decide +kernel) [some (.ref pt), some (.ref (v_ w)), none, none] rfl (Nat.le_of_ble_eq_true rfl) (fun φ hF hR => ?_)
  refine j_iconst hF dX7_markFrontier_0 (j_istore_n hF dX7_markFrontier_1 (Nat.le_of_ble_eq_true rfl) rfl (j_iconst hF dX7_markFrontier_2 (j_istore_n hF dX7_markFrontier_3 (Nat.le_of_ble_eq_true rfl) rfl ?_)))
  have LL : ∀ (n : Nat) (i : Nat) (Y : Hp) (fk1 : Int → Int) (mk1 kc0 ks0 : Nat), (sz.toNat - i) < n → (i : Int) ≤ sz → DB Y pt ea sa y st B g ml ws va qa oe dc v_ q_ m_ f_ r sv pf er kr → VP Y (B + 100 + 10 * w.toNat) (v_ w) s cc k nv sz fs fv fk1 → VR Y (B + 100 + 10 * (1 - w).toNat) (v_ (1 - w)) nu zu (fun x => r (6359 + 16000 * (1 - w) + x)) → WR Y 100 y mk1 gn r → FB 0 5000 X Y → mk ≤ mk1 → kc0 ≤ 4 * (mk1 - mk) → ks0 ≤ 30400 * (mk1 - mk) → (∀ j, 0 ≤ j → j < (i : Int) → fk1 j = bz (onF r w (fs j))) → Jd φ Y kc0 ks0 4 [some (.ref pt), some (.ref (v_ w)), some (vi (cf (fun j => oF r w (fs j)) i)), some (vi (i : Int))] [] := by
    intro n
    induction n with
    | zero => intro i Y fk1 mk1 kc0 ks0 hfu; exact absurd hfu (by omega)
    | succ n ih =>
      intro i Y fk1 mk1 kc0 ks0 hfu hi hD hVP hVo hWR hFF hmk hkk hnn hf_
      have hpt := hD.1.pt.1
      have hLB := hD.1.pt.2
      have hLB1 := hLB
      unfold LB at hLB1
      obtain ⟨av, aq, ao, af, h1, ⟨ga, gb, gc, gd, nc, ec, jd, js, je, jk, hGP, hGE⟩, -⟩ := id hD.2.2.1
      have hl3 := hWR.mk
      have hz := hVI.1
      have htop := hVI.top
      obtain ⟨ol, hyo⟩ := hWR.obj
      refine j_iload_n hF dX7_markFrontier_4 rfl (j_aload_n hF dX7_markFrontier_5 rfl (j_get hF hVP.1 fl_RX7_215 dX7_markFrontier_6 rfl (j_icmp_ge hF 47 dX7_markFrontier_9 (by decide) (by omega) (fun c9 => ?_) (fun c9 => ?_))))
      ·
        refine j_iload_n hF dX7_markFrontier_47 rfl (j_iretv hF hR dX7_markFrontier_48 (by omega) (by omega) ?_)
        have ez : (i : Int) = sz := by omega
        have e0 := hVI.all (g := oF r w) oF_0
        rw [← ez, show ((i : Int)).toNat = i by omega] at e0
        rw [e0]
        exact ⟨rfl, fk1, mk1, hD, hVP, fun j j1 j2 => hf_ j j1 (by omega), hVo, hmk, hWR, hFF, hkk, hnn⟩
      ·
        refine j_aload_n hF dX7_markFrontier_12 rfl (j_get hF hVP.1 fl_RX7_265 dX7_markFrontier_13 rfl (j_iload_n hF dX7_markFrontier_16 rfl (j_aload_n hF dX7_markFrontier_17 rfl (j_aload_n hF dX7_markFrontier_18 rfl (j_iload_n hF dX7_markFrontier_19 rfl ?_)))))
        refine j_callVv hF (c_X7_isOnFrontier hpt h1 hLB hGP hGE hGV hWR hgn hVP hVI (by omega) hw hvd hn (by omega)) ms_X7_isOnFrontier mv_X7_isOnFrontier lk_RX7_218 dX7_markFrontier_20 hpt rfl rfl rfl (by simp [Value.category]) ⟨⟨(Nat.le_of_ble_eq_true rfl), (Nat.le_of_ble_eq_true rfl)⟩, by omega, by omega⟩ (fun v1 X1 k1 n1 hp1 hE1 => ?_)
        obtain ⟨rfl, mk2, hmk2, hW2, hFw2, hkk2, hnn2⟩ := hp1
        have hmk3 := hW2.mk
        have hD := hD.keep hFw2 (by omega)
        have hVP := hVP.keep hFw2 (by omega)
        have hVo := hVo.keep hFw2 (by omega)
        have hpt := hD.1.pt.1
        have hFF := hFF.trans (hFw2.mono (by omega) (by omega))
        refine j_b_eq hF 30 dX7_markFrontier_23 (by decide) (fun c23 => ?_) (fun c23 => ?_)
        ·
          refine j_iconst hF dX7_markFrontier_30 (j_iast hF hVP.2.2.2 dX7_markFrontier_31 (by omega) (by omega) (j_nm (fun X2 eX2 => ?_)))
          have hVG := hVP.gg.u_fk eX2
          have hVP := hVG.1
          have hFm := hVG.2
          have hD := hD.keep hFm (by omega)
          have hVo := hVo.keep hFm (by omega)
          have hW2 := hW2.keep hFm (by omega)
          have hpt := hD.1.pt.1
          have hFF := hFF.trans (hFm.mono (by omega) (by omega))
          have hfi : ∀ j, 0 ≤ j → j < ((i + 1 : Nat) : Int) → fu fk1 i 0 j = bz (onF r w (fs j)) := by
            intro j j1 j2
            by_cases qj : j = (i : Int)
            · rw [qj, fu_s]; first | rw [bz_t c23] | rw [bz_f c23]
            · rw [fu_n qj]; exact hf_ j j1 (by omega)
          have ef : cf (fun j => oF r w (fs j)) i + 0 = cf (fun j => oF r w (fs j)) (i + 1) := by
            show _ = cf (fun j => oF r w (fs j)) i + bz (onF r w (fs i))
            first | rw [bz_t c23] | rw [bz_f c23]
          refine j_iload_n hF dX7_markFrontier_32 rfl (j_aload_n hF dX7_markFrontier_33 rfl (j_get hF hVP.1 fl_RX7_265 dX7_markFrontier_34 rfl (j_iload_n hF dX7_markFrontier_37 rfl (j_iald hF hVP.2.2.2 dX7_markFrontier_38 (by omega) (fun ra3 rb3 => ?_)))))
          rw [fu_s]
          refine j_iadd hF dX7_markFrontier_39 ?_
          rw [ef]
          refine j_istore_n hF dX7_markFrontier_40 (Nat.le_of_ble_eq_true rfl) rfl (j_iinc hF dX7_markFrontier_41 rfl (Nat.le_of_ble_eq_true rfl) rfl (j_goto hF 4 dX7_markFrontier_44 (by decide) ?_))
          exact ih (i + 1) _ _ mk2 _ _ (by omega) (by omega) hD hVP hVo hW2 hFF (by omega) (by omega) (by omega) hfi
        ·
          refine j_iconst hF dX7_markFrontier_26 (j_goto hF 31 dX7_markFrontier_27 (by decide) (j_iast hF hVP.2.2.2 dX7_markFrontier_31 (by omega) (by omega) (j_nm (fun X4 eX4 => ?_))))
          have hVG := hVP.gg.u_fk eX4
          have hVP := hVG.1
          have hFm := hVG.2
          have hD := hD.keep hFm (by omega)
          have hVo := hVo.keep hFm (by omega)
          have hW2 := hW2.keep hFm (by omega)
          have hpt := hD.1.pt.1
          have hFF := hFF.trans (hFm.mono (by omega) (by omega))
          have hfi : ∀ j, 0 ≤ j → j < ((i + 1 : Nat) : Int) → fu fk1 i 1 j = bz (onF r w (fs j)) := by
            intro j j1 j2
            by_cases qj : j = (i : Int)
            · rw [qj, fu_s]; first | rw [bz_t c23] | rw [bz_f c23]
            · rw [fu_n qj]; exact hf_ j j1 (by omega)
          have ef : cf (fun j => oF r w (fs j)) i + 1 = cf (fun j => oF r w (fs j)) (i + 1) := by
            show _ = cf (fun j => oF r w (fs j)) i + bz (onF r w (fs i))
            first | rw [bz_t c23] | rw [bz_f c23]
          refine j_iload_n hF dX7_markFrontier_32 rfl (j_aload_n hF dX7_markFrontier_33 rfl (j_get hF hVP.1 fl_RX7_265 dX7_markFrontier_34 rfl (j_iload_n hF dX7_markFrontier_37 rfl (j_iald hF hVP.2.2.2 dX7_markFrontier_38 (by omega) (fun ra5 rb5 => ?_)))))
          rw [fu_s]
          refine j_iadd hF dX7_markFrontier_39 ?_
          rw [ef]
          refine j_istore_n hF dX7_markFrontier_40 (Nat.le_of_ble_eq_true rfl) rfl (j_iinc hF dX7_markFrontier_41 rfl (Nat.le_of_ble_eq_true rfl) rfl (j_goto hF 4 dX7_markFrontier_44 (by decide) ?_))
          exact ih (i + 1) _ _ mk2 _ _ (by omega) (by omega) hD hVP hVo hW2 hFF (by omega) (by omega) (by omega) hfi
  exact LL (sz.toNat + 1) 0 X fk mk _ _ (by omega) (by have := hVI.1; omega) hD hVP hVo hWR (FB.refl _ _ X) (Nat.le_refl _) (by omega) (by omega) (fun j j1 j2 => absurd j2 (by omega))

set_option maxRecDepth 100000 in
set_option maxHeartbeats 4000000 in
theorem c_X7_mixView {X : Hp} {pt ea sa y st B g ml ws va qa oe dc kr : Nat} {v_ q_ m_ : Int → Nat} {f_ r pf er : Int → Int} {sv : Int} {n_ : Int → Nat} {z_ : Int → Int} (hD : DB X pt ea sa y st B g ml ws va qa oe dc v_ q_ m_ f_ r sv pf er kr) (hV : VV X B v_ n_ z_ r) (hGV : GV r) (hvd : VDv r) {mk : Nat} {gn : Int} (hWR : WR X 100 y mk gn r) (hgn : gn ≤ 100000) {h : Int64} {w : Int} (hw : 0 ≤ w ∧ w ≤ 1) : Cv yX7_mixView cX7_mixView 9 (some .long) 7 169 [.ref pt, .long h, vi w] X (4 * (1 - mk)) (30400 * (1 - mk)) (fun rv X' kk nn => rv = some (.long (h_view r w h)) ∧ ∃ mk', DB X' pt ea sa y st B g ml ws va qa oe dc v_ q_ m_ f_ r sv pf er kr ∧ VV X' B v_ n_ z_ r ∧ mk ≤ mk' ∧ WR X' 100 y mk' gn r ∧ FB 0 5000 X X' ∧ kk ≤ 4 * (mk' - mk) ∧ nn ≤ 30400 * (mk' - mk)) := by
  refine Cv.of (by decide +kernel) [some (.ref pt), some (.long h), none, some (vi w), none, none, none, none, none] rfl (Nat.le_of_ble_eq_true rfl) (fun φ hF hR => ?_)
  have hpt := hD.1.pt.1
  obtain ⟨av, aq, ao, af, h1, -, -, -, h5, h6, -, -, h9, -, -⟩ := id hD.2.2.1
  obtain ⟨vs, vc_, vk, fs_, fv_, fk_, hVP, hVI, hv16, hv32⟩ := hV w hw.1 hw.2
  have hl3 := hWR.mk
  have hz := hVI.1
  have htop := hVI.top
  refine j_aload_n hF dX7_mixView_0 rfl (j_get hF hpt fl_RX7_27 dX7_mixView_1 rfl (j_get hF h1 fl_RX7_189 dX7_mixView_4 rfl (j_iload_n hF dX7_mixView_7 rfl (j_aald hF (by decide) h5 dX7_mixView_8 (by omega) (h9 w hw.1 hw.2).1 (j_astore hF dX7_mixView_9 (Nat.le_of_ble_eq_true rfl) rfl ?_)))))
  refine j_lload_n hF dX7_mixView_11 rfl (j_aload hF dX7_mixView_12 rfl (j_callV hF (c_X4_countActive hVP hVI (by omega)) ms_X4_countActive mv_X4_countActive lk_RX7_211 dX7_mixView_14 hVP.1 rfl rfl rfl (by simp [Value.category]) ⟨⟨(Nat.le_of_ble_eq_true rfl), (Nat.le_of_ble_eq_true rfl)⟩, by omega, by omega⟩ (fun v1 X1 hp1 hE1 => ?_)))
  obtain ⟨rfl, he1⟩ := hp1; obtain rfl := he1.symm
  rw [show (fun x => if 0 < (fun x => r (6359 + 16000 * w + x)) x then (1 : Int) else 0) = aF r w from rfl]
  refine j_callS hF (c_X7_mix) ms_X7_mix mt_X7_mix lk_RX7_241 dX7_mixView_17 rfl rfl rfl (by simp [Value.category]) ⟨⟨(Nat.le_of_ble_eq_true rfl), (Nat.le_of_ble_eq_true rfl)⟩, by omega, by omega⟩ (fun v2 X2 hp2 hE2 => ?_)
  obtain ⟨rfl, he2⟩ := hp2; obtain rfl := he2.symm
  refine j_lstore hF dX7_mixView_20 (Nat.le_of_ble_eq_true rfl) rfl (j_aload_n hF dX7_mixView_22 rfl (j_aload hF dX7_mixView_23 rfl (j_callVv hF (c_X7_markFrontier hD hGV hvd hWR hgn hw hVP hVI hv32 (hV (1 - w) (by omega) (by omega))) ms_X7_markFrontier mv_X7_markFrontier lk_RX7_261 dX7_mixView_25 hpt rfl rfl rfl (by simp [Value.category]) ⟨⟨(Nat.le_of_ble_eq_true rfl), (Nat.le_of_ble_eq_true rfl)⟩, by omega, by omega⟩ (fun v3 X3 k3 n3 hp3 hE3 => ?_))))
  obtain ⟨rfl, fk2, mk2, hD, hVP, hmk_, hVo, hmk2, hW2, hFF, hkk2, hnn2⟩ := hp3
  have hpt := hD.1.pt.1
  have hm3 := hW2.mk
  obtain ⟨av2, aq2, -, -, h1, -, -, -, h5, h6, -, -, h9, -, -⟩ := id hD.2.2.1
  obtain ⟨qu, fq2, hQP, -⟩ := hD.2.2.2 w hw.1 hw.2
  have hVn : VV X3 B v_ n_ z_ r := by
    intro u u1 u2
    by_cases qu_ : u = w
    · rw [qu_]; exact ⟨_, _, _, _, _, _, hVP, hVI, hv16, hv32⟩
    · obtain rfl : u = 1 - w := by omega
      exact hVo
  refine j_istore hF dX7_mixView_28 (Nat.le_of_ble_eq_true rfl) rfl (j_lload hF dX7_mixView_30 rfl (j_iload hF dX7_mixView_32 rfl (j_callS hF (c_X7_mix) ms_X7_mix mt_X7_mix lk_RX7_241 dX7_mixView_34 rfl rfl rfl (by simp [Value.category]) ⟨⟨(Nat.le_of_ble_eq_true rfl), (Nat.le_of_ble_eq_true rfl)⟩, by omega, by omega⟩ (fun v4 X4 hp4 hE4 => ?_))))
  obtain ⟨rfl, he4⟩ := hp4; obtain rfl := he4.symm
  refine j_lstore hF dX7_mixView_37 (Nat.le_of_ble_eq_true rfl) rfl (j_iconst hF dX7_mixView_39 (j_istore hF dX7_mixView_40 (Nat.le_of_ble_eq_true rfl) rfl ?_))
  have LL : ∀ (n : Nat) (i : Nat) (kc0 ks0 : Nat), ((z_ w).toNat - i) < n → (i : Int) ≤ z_ w → kc0 ≤ k3 → ks0 ≤ n3 → Jd φ X3 kc0 ks0 42 [some (.ref pt), some (.long h), none, some (vi w), some (.ref (v_ w)), some (.long (hf (frAt r w) (cf (fun j => oF r w (fs_ j)) i).toNat (mx (mx h (cf (aF r w) 16000)) (cf (oF r w) 16000)))), none, some (vi (cf (oF r w) 16000)), some (vi (i : Int))] [] := by
    intro n
    induction n with
    | zero => intro i kc0 ks0 hfu; exact absurd hfu (by omega)
    | succ n ih =>
      intro i kc0 ks0 hfu hi hc1 hc2
      have hcr := cf_rg (f := fun j => oF r w (fs_ j)) i (fun j _ _ => bz_rg _)
      refine j_iload hF dX7_mixView_42 rfl (j_aload hF dX7_mixView_44 rfl (j_get hF hVP.1 fl_RX7_215 dX7_mixView_46 rfl (j_icmp_ge hF 85 dX7_mixView_49 (by decide) (by omega) (fun c49 => ?_) (fun c49 => ?_))))
      ·
        refine j_lload hF dX7_mixView_85 rfl (j_aload_n hF dX7_mixView_87 rfl (j_get hF hpt fl_RX7_27 dX7_mixView_88 rfl (j_get hF h1 fl_RX7_185 dX7_mixView_91 rfl (j_iload_n hF dX7_mixView_94 rfl (j_aald hF (by decide) h6 dX7_mixView_95 (by omega) (h9 w hw.1 hw.2).2 ?_)))))
        refine j_get hF hQP.1 fl_RX7_225 dX7_mixView_96 rfl (j_callS hF (c_X7_mix) ms_X7_mix mt_X7_mix lk_RX7_241 dX7_mixView_99 rfl rfl rfl (by simp [Value.category]) ⟨⟨(Nat.le_of_ble_eq_true rfl), (Nat.le_of_ble_eq_true rfl)⟩, by omega, by omega⟩ (fun v1 X1 hp1 hE1 => ?_))
        obtain ⟨rfl, he1⟩ := hp1; obtain rfl := he1.symm
        refine j_lretv hF hR dX7_mixView_102 (by omega) (by omega) ?_
        have ez : (i : Int) = z_ w := by omega
        have e0 := hVI.all (g := oF r w) oF_0
        rw [← ez, show ((i : Int)).toNat = i by omega] at e0
        rw [e0]
        exact ⟨rfl, mk2, hD, hVn, hmk2, hW2, hFF, by omega, by omega⟩
      ·
        refine j_aload hF dX7_mixView_52 rfl (j_get hF hVP.1 fl_RX7_265 dX7_mixView_54 rfl (j_iload hF dX7_mixView_57 rfl (j_iald hF hVP.2.2.2 dX7_mixView_59 (by omega) (fun ra2 rb2 => ?_))))
        rw [hmk_ i (by omega) (by omega)]
        have hbr := bz_rg (onF r w (fs_ i))
        refine j_iconst hF dX7_mixView_60 (j_icmp_ne hF 79 dX7_mixView_61 (by decide) (by omega) (fun c61 => ?_) (fun c61 => ?_))
        ·
          refine j_iinc hF dX7_mixView_79 rfl (Nat.le_of_ble_eq_true rfl) rfl (j_goto hF 42 dX7_mixView_82 (by decide) ?_)
          have es : cf (fun j => oF r w (fs_ j)) (i + 1) = (cf (fun j => oF r w (fs_ j)) i) + bz (onF r w (fs_ i)) := rfl
          have hb0 : bz (onF r w (fs_ i)) = 0 := by omega
          rw [hb0] at es
          rw [show (cf (fun j => oF r w (fs_ j)) i) = cf (fun j => oF r w (fs_ j)) (i + 1) by omega]
          exact ih (i + 1) _ _ (by omega) (by omega) (by omega) (by omega)
        ·
          refine j_lload hF dX7_mixView_64 rfl (j_aload hF dX7_mixView_66 rfl (j_get hF hVP.1 fl_RX7_222 dX7_mixView_68 rfl (j_iload hF dX7_mixView_71 rfl (j_iald hF hVP.2.1 dX7_mixView_73 (by omega) (fun ra3 rb3 => ?_)))))
          refine j_callS hF (c_X7_mix) ms_X7_mix mt_X7_mix lk_RX7_241 dX7_mixView_74 rfl rfl rfl (by simp [Value.category]) ⟨⟨(Nat.le_of_ble_eq_true rfl), (Nat.le_of_ble_eq_true rfl)⟩, by omega, by omega⟩ (fun v4 X4 hp4 hE4 => ?_)
          obtain ⟨rfl, he4⟩ := hp4; obtain rfl := he4.symm
          refine j_lstore hF dX7_mixView_77 (Nat.le_of_ble_eq_true rfl) rfl ?_
          refine j_iinc hF dX7_mixView_79 rfl (Nat.le_of_ble_eq_true rfl) rfl (j_goto hF 42 dX7_mixView_82 (by decide) ?_)
          have es : cf (fun j => oF r w (fs_ j)) (i + 1) = (cf (fun j => oF r w (fs_ j)) i) + bz (onF r w (fs_ i)) := rfl
          rw [c61] at es
          have hon : onF r w (fs_ i) := bz_1 c61
          have hfr : frAt r w (cf (fun j => oF r w (fs_ j)) i) = fs_ i := by
            refine frAt_eq (Or.inr ⟨(hVI.2.1 i (by omega) (by omega)).1, hon, ?_⟩)
            exact (hVI.fr (by omega)).symm
          rw [hf_nx (n := (cf (fun j => oF r w (fs_ j)) i).toNat) (c := (cf (fun j => oF r w (fs_ j)) i)) (by omega) hfr, show (cf (fun j => oF r w (fs_ j)) i).toNat + 1 = (cf (fun j => oF r w (fs_ j)) (i + 1)).toNat by omega]
          exact ih (i + 1) _ _ (by omega) (by omega) (by omega) (by omega)
  exact LL ((z_ w).toNat + 1) 0 _ _ (by omega) (by omega) (by omega) (by omega)

