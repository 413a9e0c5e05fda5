theorem mq_mx (h : Int64) (v : Int) : mx h v = mx h v := rfl
set_option maxRecDepth 100000 in
set_option maxHeartbeats 4000000 in
theorem c_X7_mixGraph {X : Hp} {pt ea sa y st B g ml ws va qa oe dc : Nat} {sv : Int} {v q : Int → Nat} {r : Int → Int} (hpt : X pt = some (0, ob 7 [.ref ea, .ref sa, .ref y, .ref st, vi sv])) (hS : SS X B st g ml ws va qa oe dc v q r) (hLB : LB B) (hGV : GV r) {h : Int64} : Ct yX7_mixGraph cX7_mixGraph 7 (some .long) 1 22 [.ref pt, .long h] X 0 0 (fun rv X' => rv = some (.long (h_edges r (r 1).toNat (mx (h_nodes r (r 0).toNat (mx h (r 0))) (r 1)))) ∧ X' = X) := by
  refine Ct.of (by decide +kernel) [some (.ref pt), some (.long h), none, none, none, none, none] rfl (Nat.le_of_ble_eq_true rfl) (fun φ hF hR => ?_)
  obtain ⟨av, aq, ao, af, h1, ⟨ga, gb, gc, gd, nc, ec, jd, js, je, jk, hGP, hGE⟩, ⟨mz, mt, yz, yt, hMP, x1, x2⟩, ⟨wz, wt, uz, ut, hWP, x3⟩, h5, h6, h7, h8, h9, h10, h11⟩ := id hS
  obtain ⟨g1, g1'⟩ := id hGE.1
  subst g1
  subst g1'
  have b0 := hGV.1.1
  have b1 := hGV.1.2.1
  refine j_aload_n hF dX7_mixGraph_0 rfl (j_get hF hpt fl_RX7_27 dX7_mixGraph_1 rfl (j_get hF h1 fl_RX7_43 dX7_mixGraph_4 rfl (j_astore_n hF dX7_mixGraph_7 (Nat.le_of_ble_eq_true rfl) rfl (j_lload_n hF dX7_mixGraph_8 rfl (j_aload_n hF dX7_mixGraph_9 rfl ?_)))))
  refine j_get hF hGP.1 fl_RX7_47 dX7_mixGraph_10 rfl (j_callS hF (c_X7_mix) ms_X7_mix mt_X7_mix lk_RX7_241 dX7_mixGraph_13 rfl rfl rfl (by simp [Value.category]) ⟨⟨(Nat.le_of_ble_eq_true rfl), (Nat.le_of_ble_eq_true rfl)⟩, by omega, by omega⟩ (fun v1 X1 hp1 hE1 => ?_))
  obtain ⟨rfl, he1⟩ := hp1; obtain rfl := he1.symm
  refine j_lstore hF dX7_mixGraph_16 (Nat.le_of_ble_eq_true rfl) rfl (j_iconst hF dX7_mixGraph_18 (j_istore hF dX7_mixGraph_19 (Nat.le_of_ble_eq_true rfl) rfl ?_))
  have L81 : ∀ (n : Nat) (k : Nat), ((r 1).toNat - k) < n → (k : Int) ≤ r 1 → Jd φ X 0 0 81 [some (.ref pt), some (.long h), none, some (.ref g), some (.long (h_edges r k (mx (h_nodes r (r 0).toNat (mx h (r 0))) (r 1)))), none, some (vi (k : Int))] [] := by
    intro n
    induction n with
    | zero => intro k hfu; exact absurd hfu (by omega)
    | succ n ih =>
      intro k hfu hk
      refine j_iload hF dX7_mixGraph_81 rfl (j_aload_n hF dX7_mixGraph_83 rfl (j_get hF hGP.1 fl_RX7_73 dX7_mixGraph_84 rfl (j_icmp_ge hF 138 dX7_mixGraph_87 (by decide) (by omega) (fun c87 => ?_) (fun c87 => ?_))))
      ·
        refine j_lload hF dX7_mixGraph_138 rfl (j_lret hF hR dX7_mixGraph_140 (by omega) (by omega) ?_)
        rw [show (r 1).toNat = k by omega]
        exact ⟨rfl, rfl⟩
      ·
        refine j_lload hF dX7_mixGraph_90 rfl (j_aload_n hF dX7_mixGraph_92 rfl (j_get hF hGP.1 fl_RX7_117 dX7_mixGraph_93 rfl (j_iload hF dX7_mixGraph_96 rfl (j_iald hF hGP.2.2.1 dX7_mixGraph_98 (by omega) (fun ra1 rb1 => ?_)))))
        rw [(hGE.2.2 k (by omega) (by omega)).1]
        refine j_callS hF (c_X7_mix) ms_X7_mix mt_X7_mix lk_RX7_241 dX7_mixGraph_99 rfl rfl rfl (by simp [Value.category]) ⟨⟨(Nat.le_of_ble_eq_true rfl), (Nat.le_of_ble_eq_true rfl)⟩, by omega, by omega⟩ (fun v2 X2 hp2 hE2 => ?_)
        obtain ⟨rfl, he2⟩ := hp2; obtain rfl := he2.symm
        refine j_lstore hF dX7_mixGraph_102 (Nat.le_of_ble_eq_true rfl) rfl (j_lload hF dX7_mixGraph_104 rfl (j_aload_n hF dX7_mixGraph_106 rfl (j_get hF hGP.1 fl_RX7_143 dX7_mixGraph_107 rfl (j_iload hF dX7_mixGraph_110 rfl (j_iald hF hGP.2.2.2.1 dX7_mixGraph_112 (by omega) (fun ra3 rb3 => ?_))))))
        rw [(hGE.2.2 k (by omega) (by omega)).2.1]
        refine j_callS hF (c_X7_mix) ms_X7_mix mt_X7_mix lk_RX7_241 dX7_mixGraph_113 rfl rfl rfl (by simp [Value.category]) ⟨⟨(Nat.le_of_ble_eq_true rfl), (Nat.le_of_ble_eq_true rfl)⟩, by omega, by omega⟩ (fun v4 X4 hp4 hE4 => ?_)
        obtain ⟨rfl, he4⟩ := hp4; obtain rfl := he4.symm
        refine j_lstore hF dX7_mixGraph_116 (Nat.le_of_ble_eq_true rfl) rfl (j_lload hF dX7_mixGraph_118 rfl (j_aload_n hF dX7_mixGraph_120 rfl (j_get hF hGP.1 fl_RX7_83 dX7_mixGraph_121 rfl (j_iload hF dX7_mixGraph_124 rfl (j_iald hF hGP.2.2.2.2 dX7_mixGraph_126 (by omega) (fun ra5 rb5 => ?_))))))
        rw [(hGE.2.2 k (by omega) (by omega)).2.2]
        refine j_callS hF (c_X7_mix) ms_X7_mix mt_X7_mix lk_RX7_241 dX7_mixGraph_127 rfl rfl rfl (by simp [Value.category]) ⟨⟨(Nat.le_of_ble_eq_true rfl), (Nat.le_of_ble_eq_true rfl)⟩, by omega, by omega⟩ (fun v6 X6 hp6 hE6 => ?_)
        obtain ⟨rfl, he6⟩ := hp6; obtain rfl := he6.symm
        refine j_lstore hF dX7_mixGraph_130 (Nat.le_of_ble_eq_true rfl) rfl (j_iinc hF dX7_mixGraph_132 rfl (Nat.le_of_ble_eq_true rfl) rfl (j_goto hF 81 dX7_mixGraph_135 (by decide) ?_))
        exact ih (k + 1) (by omega) (by omega)
  have L21 : ∀ (n : Nat) (k : Nat), ((r 0).toNat - k) < n → (k : Int) ≤ r 0 → Jd φ X 0 0 21 [some (.ref pt), some (.long h), none, some (.ref g), some (.long (h_nodes r k (mx h (r 0)))), none, some (vi (k : Int))] [] := by
    intro n
    induction n with
    | zero => intro k hfu; exact absurd hfu (by omega)
    | succ n ih =>
      intro k hfu hk
      refine j_iload hF dX7_mixGraph_21 rfl (j_aload_n hF dX7_mixGraph_23 rfl (j_get hF hGP.1 fl_RX7_47 dX7_mixGraph_24 rfl (j_icmp_ge hF 67 dX7_mixGraph_27 (by decide) (by omega) (fun c27 => ?_) (fun c27 => ?_))))
      ·
        refine j_lload hF dX7_mixGraph_67 rfl (j_aload_n hF dX7_mixGraph_69 rfl (j_get hF hGP.1 fl_RX7_73 dX7_mixGraph_70 rfl (j_callS hF (c_X7_mix) ms_X7_mix mt_X7_mix lk_RX7_241 dX7_mixGraph_73 rfl rfl rfl (by simp [Value.category]) ⟨⟨(Nat.le_of_ble_eq_true rfl), (Nat.le_of_ble_eq_true rfl)⟩, by omega, by omega⟩ (fun v1 X1 hp1 hE1 => ?_))))
        obtain ⟨rfl, he1⟩ := hp1; obtain rfl := he1.symm
        refine j_lstore hF dX7_mixGraph_76 (Nat.le_of_ble_eq_true rfl) rfl (j_iconst hF dX7_mixGraph_78 (j_istore hF dX7_mixGraph_79 (Nat.le_of_ble_eq_true rfl) rfl ?_))
        rw [show k = (r 0).toNat by omega]
        exact L81 ((r 1).toNat + 1) 0 (by omega) (by omega)
      ·
        refine j_lload hF dX7_mixGraph_30 rfl (j_aload_n hF dX7_mixGraph_32 rfl (j_get hF hGP.1 fl_RX7_258 dX7_mixGraph_33 rfl (j_iload hF dX7_mixGraph_36 rfl (j_iald hF hGP.2.1 dX7_mixGraph_38 (by omega) (fun ra2 rb2 => ?_)))))
        rw [hGE.2.1 k (by omega) (by omega)]
        refine j_callS hF (c_X7_mix) ms_X7_mix mt_X7_mix lk_RX7_241 dX7_mixGraph_39 rfl rfl rfl (by simp [Value.category]) ⟨⟨(Nat.le_of_ble_eq_true rfl), (Nat.le_of_ble_eq_true rfl)⟩, by omega, by omega⟩ (fun v3 X3 hp3 hE3 => ?_)
        obtain ⟨rfl, he3⟩ := hp3; obtain rfl := he3.symm
        refine j_lstore hF dX7_mixGraph_42 (Nat.le_of_ble_eq_true rfl) rfl (j_lload hF dX7_mixGraph_44 rfl (j_aload_n hF dX7_mixGraph_46 rfl (j_get hF hpt fl_RX7_27 dX7_mixGraph_47 rfl (j_get hF h1 fl_RX7_114 dX7_mixGraph_50 rfl (j_iload hF dX7_mixGraph_53 rfl ?_)))))
        refine j_iald hF h7 dX7_mixGraph_55 (by omega) (fun ra4 rb4 => ?_)
        rw [h10 k (by omega) (by omega)]
        refine j_callS hF (c_X7_mix) ms_X7_mix mt_X7_mix lk_RX7_241 dX7_mixGraph_56 rfl rfl rfl (by simp [Value.category]) ⟨⟨(Nat.le_of_ble_eq_true rfl), (Nat.le_of_ble_eq_true rfl)⟩, by omega, by omega⟩ (fun v5 X5 hp5 hE5 => ?_)
        obtain ⟨rfl, he5⟩ := hp5; obtain rfl := he5.symm
        refine j_lstore hF dX7_mixGraph_59 (Nat.le_of_ble_eq_true rfl) rfl (j_iinc hF dX7_mixGraph_61 rfl (Nat.le_of_ble_eq_true rfl) rfl (j_goto hF 21 dX7_mixGraph_64 (by decide) ?_))
        exact ih (k + 1) (by omega) (by omega)
  exact L21 ((r 0).toNat + 1) 0 (by omega) (by omega)

set_option maxRecDepth 100000 in
set_option maxHeartbeats 4000000 in
theorem c_X7_mixMail {X : Hp} {pt ea sa y st B g ml ws va qa oe dc : Nat} {sv : Int} {v q : Int → Nat} {r : Int → Int} (hpt : X pt = some (0, ob 7 [.ref ea, .ref sa, .ref y, .ref st, vi sv])) (hS : SS X B st g ml ws va qa oe dc v q r) (hLB : LB B) (hGV : GV r) {h : Int64} {w : Int} (hw : 0 ≤ w ∧ w ≤ 1) (hm : RM2 r) : Ct yX7_mixMail cX7_mixMail 9 (some .long) 1 23 [.ref pt, .long h, vi w] X 0 0 (fun rv X' => rv = some (.long (h_mail r w (r 1).toNat h)) ∧ X' = X) := by
  refine Ct.of (by decide +kernel) [some (.ref pt), some (.long h), none, some (vi w), none, none, none, none, none] rfl (Nat.le_of_ble_eq_true rfl) (fun φ hF hR => ?_)
  obtain ⟨av, aq, ao, af, h1, ⟨ga, gb, gc, gd, nc, ec, jd, js, je, jk, hGP, hGE⟩, ⟨mz, mt, yz, yt, hMP, x1, x2⟩, ⟨wz, wt, uz, ut, hWP, x3⟩, h5, h6, h7, h8, h9, h10, h11⟩ := id hS
  obtain ⟨g1, g1'⟩ := id hGE.1
  subst g1
  subst g1'
  have b0 := hGV.1.1
  have b1 := hGV.1.2.1
  refine j_lload_n hF dX7_mixMail_0 rfl (j_lstore hF dX7_mixMail_1 (Nat.le_of_ble_eq_true rfl) rfl (j_iconst hF dX7_mixMail_3 (j_istore hF dX7_mixMail_4 (Nat.le_of_ble_eq_true rfl) rfl ?_)))
  have L6 : ∀ (n : Nat) (k : Nat), ((r 1).toNat - k) < n → (k : Int) ≤ r 1 → Jd φ X 0 0 6 [some (.ref pt), some (.long h), none, some (vi w), some (.long (h_mail r w k h)), none, some (vi (k : Int)), none, none] [] := by
    intro n
    induction n with
    | zero => intro k hfu; exact absurd hfu (by omega)
    | succ n ih =>
      intro k hfu hk
      refine j_iload hF dX7_mixMail_6 rfl (j_aload_n hF dX7_mixMail_8 rfl (j_get hF hpt fl_RX7_27 dX7_mixMail_9 rfl (j_get hF h1 fl_RX7_43 dX7_mixMail_12 rfl (j_get hF hGP.1 fl_RX7_73 dX7_mixMail_15 rfl (j_icmp_ge hF 89 dX7_mixMail_18 (by decide) (by omega) (fun c18 => ?_) (fun c18 => ?_))))))
      ·
        refine j_lload hF dX7_mixMail_89 rfl (j_lret hF hR dX7_mixMail_91 (by omega) (by omega) ?_)
        rw [show (r 1).toNat = k by omega]
        exact ⟨rfl, rfl⟩
      ·
        refine j_aload_n hF dX7_mixMail_21 rfl (j_get hF hpt fl_RX7_27 dX7_mixMail_22 rfl (j_get hF h1 fl_RX7_120 dX7_mixMail_25 rfl (j_iload_n hF dX7_mixMail_28 rfl (j_iload hF dX7_mixMail_29 rfl (j_callV hF (c_X1_sizeOf hMP hw (by omega)) ms_X1_sizeOf mv_X1_sizeOf lk_RX7_146 dX7_mixMail_31 hMP.1 rfl rfl rfl (by simp [Value.category]) ⟨⟨(Nat.le_of_ble_eq_true rfl), (Nat.le_of_ble_eq_true rfl)⟩, by omega, by omega⟩ (fun v1 X1 hp1 hE1 => ?_))))))
        obtain ⟨rfl, he1⟩ := hp1; obtain rfl := he1.symm
        have m0 := hm (10 * w + (k : Int)) (by omega) (by omega)
        rw [x1 _ (by omega) (by omega)]
        refine j_istore hF dX7_mixMail_34 (Nat.le_of_ble_eq_true rfl) rfl (j_lload hF dX7_mixMail_36 rfl (j_iload hF dX7_mixMail_38 rfl (j_callS hF (c_X7_mix) ms_X7_mix mt_X7_mix lk_RX7_241 dX7_mixMail_40 rfl rfl rfl (by simp [Value.category]) ⟨⟨(Nat.le_of_ble_eq_true rfl), (Nat.le_of_ble_eq_true rfl)⟩, by omega, by omega⟩ (fun v2 X2 hp2 hE2 => ?_))))
        obtain ⟨rfl, he2⟩ := hp2; obtain rfl := he2.symm
        refine j_lstore hF dX7_mixMail_43 (Nat.le_of_ble_eq_true rfl) rfl (j_iconst hF dX7_mixMail_45 (j_istore hF dX7_mixMail_46 (Nat.le_of_ble_eq_true rfl) rfl ?_))
        have L48 : ∀ (n : Nat) (j : Nat), ((r (47 + (10 * w + (k : Int)))).toNat - j) < n → (j : Int) ≤ (r (47 + (10 * w + (k : Int)))) → Jd φ X 0 0 48 [some (.ref pt), some (.long h), none, some (vi w), some (.long (hf (fun x => r (67 + 12 * (10 * w + (k : Int)) + x)) j (mx (h_mail r w k h) (r (47 + (10 * w + (k : Int))))))), none, some (vi (k : Int)), some (vi (r (47 + (10 * w + (k : Int))))), some (vi (j : Int))] [] := by
          intro n
          induction n with
          | zero => intro j hfu; exact absurd hfu (by omega)
          | succ n ihj =>
            intro j hfu hj
            refine j_iload hF dX7_mixMail_48 rfl (j_iload hF dX7_mixMail_50 rfl (j_icmp_ge hF 83 dX7_mixMail_52 (by decide) (by omega) (fun c52 => ?_) (fun c52 => ?_)))
            ·
              refine j_iinc hF dX7_mixMail_83 rfl (Nat.le_of_ble_eq_true rfl) rfl (j_goto hF 6 dX7_mixMail_86 (by decide) ?_)
              rw [show j = (r (47 + (10 * w + (k : Int)))).toNat by omega]
              refine j_unset 7 (j_unset 8 ?_)
              exact ih (k + 1) (by omega) (by omega)
            ·
              refine j_lload hF dX7_mixMail_55 rfl (j_aload_n hF dX7_mixMail_57 rfl (j_get hF hpt fl_RX7_27 dX7_mixMail_58 rfl (j_get hF h1 fl_RX7_120 dX7_mixMail_61 rfl (j_iload_n hF dX7_mixMail_64 rfl (j_iload hF dX7_mixMail_65 rfl ?_)))))
              refine j_iload hF dX7_mixMail_67 rfl (j_callV hF (c_X1_timeOf hMP hw (by omega) (by omega)) ms_X1_timeOf mv_X1_timeOf lk_RX7_199 dX7_mixMail_69 hMP.1 rfl rfl rfl (by simp [Value.category]) ⟨⟨(Nat.le_of_ble_eq_true rfl), (Nat.le_of_ble_eq_true rfl)⟩, by omega, by omega⟩ (fun v1 X1 hp1 hE1 => ?_))
              obtain ⟨rfl, he1⟩ := hp1; obtain rfl := he1.symm
              rw [x2 (12 * (10 * w + (k : Int)) + (j : Int)) (by omega) (by omega), show 67 + (12 * (10 * w + (k : Int)) + (j : Int)) = 67 + 12 * (10 * w + (k : Int)) + (j : Int) by omega]
              refine j_callS hF (c_X7_mix) ms_X7_mix mt_X7_mix lk_RX7_241 dX7_mixMail_72 rfl rfl rfl (by simp [Value.category]) ⟨⟨(Nat.le_of_ble_eq_true rfl), (Nat.le_of_ble_eq_true rfl)⟩, by omega, by omega⟩ (fun v2 X2 hp2 hE2 => ?_)
              obtain ⟨rfl, he2⟩ := hp2; obtain rfl := he2.symm
              refine j_lstore hF dX7_mixMail_75 (Nat.le_of_ble_eq_true rfl) rfl (j_iinc hF dX7_mixMail_77 rfl (Nat.le_of_ble_eq_true rfl) rfl (j_goto hF 48 dX7_mixMail_80 (by decide) ?_))
              exact ihj (j + 1) (by omega) (by omega)
        exact L48 ((r (47 + (10 * w + (k : Int)))).toNat + 1) 0 (by omega) (by omega)
  exact L6 ((r 1).toNat + 1) 0 (by omega) (by omega)

set_option maxRecDepth 100000 in
set_option maxHeartbeats 4000000 in
theorem c_X7_mixNotifications {X : Hp} {pt ea sa y st B g ml ws va qa oe dc : Nat} {sv : Int} {v q n : Int → Nat} {z r : Int → Int} (hpt : X pt = some (0, ob 7 [.ref ea, .ref sa, .ref y, .ref st, vi sv])) (hS : SS X B st g ml ws va qa oe dc v q r) (hV : VV X B v n z r) (hLB : LB B) (hGV : GV r) (hA : AS r) (hT : AT r) (hAP : AP_ r) (hvd : VDv r) {mk : Nat} {gn : Int} (hWR : WR X 100 y mk gn r) (hgn : gn ≤ 100000) {h : Int64} {w : Int} (hw : 0 ≤ w ∧ w ≤ 1) : Cv yX7_mixNotifications cX7_mixNotifications 7 (some .long) 7 175 [.ref pt, .long h, vi w] X (4 * (1 - mk)) (30400 * (1 - mk)) (fun rv X' kk nn => rv = some (.long (h_not r w (r 0).toNat h)) ∧ ∃ mk', mk ≤ mk' ∧ WR X' 100 y mk' gn r ∧ FB 100 110 X X' ∧ kk ≤ 4 * (mk' - mk) ∧ nn ≤ 30400 * (mk' - mk)) := by
  refine Cv.of (by decide +kernel) [some (.ref pt), some (.long h), none, some (vi w), none, none, none] rfl (Nat.le_of_ble_eq_true rfl) (fun φ hF hR => ?_)
  obtain ⟨av, aq, ao, af, h1, ⟨ga, gb, gc, gd, nc, ec, jd, js, je, jk, hGP, hGE⟩, ⟨mz, mt, yz, yt, hMP, x1, x2⟩, ⟨wz, wt, uz, ut, hWP, x3⟩, h5, h6, h7, h8, h9, h10, h11⟩ := id hS
  obtain ⟨g1, g1'⟩ := id hGE.1
  subst g1
  subst g1'
  have b0 := hGV.1.1
  have b1 := hGV.1.2.1
  have hLB0 := hLB
  unfold LB at hLB
  have a1 := hA w hw.1 (by omega)
  obtain ⟨u1, u2⟩ := x3 w hw.1 hw.2
  have hl3 := hWR.mk
  refine j_lload_n hF dX7_mixNotifications_0 rfl (j_lstore hF dX7_mixNotifications_1 (Nat.le_of_ble_eq_true rfl) rfl (j_iconst hF dX7_mixNotifications_3 (j_istore hF dX7_mixNotifications_4 (Nat.le_of_ble_eq_true rfl) rfl ?_)))
  have L6 : ∀ (n : Nat) (k : Nat) (Y : Hp) (mk1 kc0 ks0 : Nat), ((r 0).toNat - k) < n → (k : Int) ≤ r 0 → WR Y 100 y mk1 gn r → FB 100 110 X Y → mk ≤ mk1 → kc0 ≤ 4 * (mk1 - mk) → ks0 ≤ 30400 * (mk1 - mk) → Jd φ Y kc0 ks0 6 [some (.ref pt), some (.long h), none, some (vi w), some (.long (h_not r w k h)), none, some (vi (k : Int))] [] := by
    intro n
    induction n with
    | zero => intro k Y mk1 kc0 ks0 hfu; exact absurd hfu (by omega)
    | succ n ih =>
      intro k Y mk1 kc0 ks0 hfu hk hWR hFw hmk hkk hnn
      have hpt := hFw _ _ _ hpt (by omega)
      have h1 := hFw _ _ _ h1 (by omega)
      have hGP := hGP.keep hFw (by omega)
      have hWP := hWP.keep hFw (by omega)
      have hSk := hS.keep hFw (by omega)
      have hVk := hV.keep hFw (by omega)
      have hl3 := hWR.mk
      refine j_iload hF dX7_mixNotifications_6 rfl (j_aload_n hF dX7_mixNotifications_8 rfl (j_get hF hpt fl_RX7_27 dX7_mixNotifications_9 rfl (j_get hF h1 fl_RX7_43 dX7_mixNotifications_12 rfl (j_get hF hGP.1 fl_RX7_47 dX7_mixNotifications_15 rfl (j_icmp_ge hF 61 dX7_mixNotifications_18 (by decide) (by omega) (fun c18 => ?_) (fun c18 => ?_))))))
      ·
        refine j_lload hF dX7_mixNotifications_61 rfl (j_lretv hF hR dX7_mixNotifications_63 (by omega) (by omega) ?_)
        rw [show (r 0).toNat = k by omega]
        exact ⟨rfl, mk1, hmk, hWR, hFw, hkk, hnn⟩
      ·
        refine j_lload hF dX7_mixNotifications_21 rfl (j_aload_n hF dX7_mixNotifications_23 rfl (j_get hF hpt fl_RX7_27 dX7_mixNotifications_24 rfl (j_get hF h1 fl_RX7_155 dX7_mixNotifications_27 rfl (j_iload_n hF dX7_mixNotifications_30 rfl (j_iload hF dX7_mixNotifications_31 rfl ?_)))))
        refine j_callV hF (c_X6_countAt hWP hw (by rw [u1]; exact a1) (fun i i1 i2 => u2.rg hA hT hAP hw i1 (by rw [← u1]; exact i2)) (by omega)) ms_X6_countAt mv_X6_countAt lk_RX7_203 dX7_mixNotifications_33 hWP.1 rfl rfl rfl (by simp [Value.category]) ⟨⟨(Nat.le_of_ble_eq_true rfl), (Nat.le_of_ble_eq_true rfl)⟩, by omega, by omega⟩ (fun v1 X1 hp1 hE1 => ?_)
        obtain ⟨rfl, he1⟩ := hp1; obtain rfl := he1.symm
        rw [u1, u2.asked hA hT hAP hw]
        refine j_callS hF (c_X7_mix) ms_X7_mix mt_X7_mix lk_RX7_241 dX7_mixNotifications_36 rfl rfl rfl (by simp [Value.category]) ⟨⟨(Nat.le_of_ble_eq_true rfl), (Nat.le_of_ble_eq_true rfl)⟩, by omega, by omega⟩ (fun v2 X2 hp2 hE2 => ?_)
        obtain ⟨rfl, he2⟩ := hp2; obtain rfl := he2.symm
        refine j_lstore hF dX7_mixNotifications_39 (Nat.le_of_ble_eq_true rfl) rfl (j_lload hF dX7_mixNotifications_41 rfl (j_aload_n hF dX7_mixNotifications_43 rfl (j_iload_n hF dX7_mixNotifications_44 rfl (j_iload hF dX7_mixNotifications_45 rfl (j_callVv hF (c_X7_leastDeliverable hpt hSk hVk hLB0 hGV hA hT hAP hvd hWR hgn hw (by omega)) ms_X7_leastDeliverable mv_X7_leastDeliverable lk_RX7_176 dX7_mixNotifications_47 hpt rfl rfl rfl (by simp [Value.category]) ⟨⟨(Nat.le_of_ble_eq_true rfl), (Nat.le_of_ble_eq_true rfl)⟩, by omega, by omega⟩ (fun v3 X3 k3 n3 hp3 hE3 => ?_))))))
        obtain ⟨rfl, mk2, hmk2, hW2, hFw2, hkk2, hnn2⟩ := hp3
        have hmk3 := hW2.mk
        refine j_callS hF (c_X7_mix) ms_X7_mix mt_X7_mix lk_RX7_241 dX7_mixNotifications_50 rfl rfl rfl (by simp [Value.category]) ⟨⟨(Nat.le_of_ble_eq_true rfl), (Nat.le_of_ble_eq_true rfl)⟩, by omega, by omega⟩ (fun v4 X4 hp4 hE4 => ?_)
        obtain ⟨rfl, he4⟩ := hp4; obtain rfl := he4.symm
        refine j_lstore hF dX7_mixNotifications_53 (Nat.le_of_ble_eq_true rfl) rfl (j_iinc hF dX7_mixNotifications_55 rfl (Nat.le_of_ble_eq_true rfl) rfl (j_goto hF 6 dX7_mixNotifications_58 (by decide) ?_))
        exact ih (k + 1) _ mk2 _ _ (by omega) (by omega) hW2 (hFw.trans hFw2) (by omega) (by omega) (by omega)
  exact L6 ((r 0).toNat + 1) 0 X mk _ _ (by omega) (by omega) hWR (FB.refl _ _ X) (Nat.le_refl _) (by omega) (by omega)

