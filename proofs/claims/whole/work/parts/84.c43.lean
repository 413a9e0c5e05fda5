theorem WR.zero {X X' : Hp} {y l i s p : Nat} {r : Int → Int} {f1 f2 f3 f4 : Int → Int} (h : YPG X X' 100 y l i s p 0 0 0 0 0 1 0 f1 f2 f3 f4) : WR X' 100 y 0 1 r := ⟨l, i, s, p, 0, 0, f1, f2, f3, f4, h.1, by omega, ⟨by omega, by omega⟩, fun _ => rfl, fun h => absurd h (by omega)⟩
set_option maxRecDepth 100000 in
set_option maxHeartbeats 4000000 in
theorem c_X7_digest {X : Hp} {pt kap : Nat} {ct : Int} {r pf : Int → Int} {sv : Int} {er : Int → Int} (hP : PP X pt kap ct (r, pf, sv, er)) (hGV : GV r) (hE : EI er) (hct : 0 ≤ ct ∧ ct ≤ 1000) (hm : RM2 r) (hA : AS r) (hT : AT r) (hAP : AP_ r) (hvd : VDv r) : Cv yX7_digest cX7_digest 4 (some .long) 8 201 [.ref pt] X (393155 - kap) (6 * (393155 - kap)) (fun rv X' kk nn => rv = some (.long (h_dig (r, pf, sv, er))) ∧ PPQ X X' pt kap (ct + 1) (r, pf, sv, er) kk nn) := by
  refine Cv.of (by decide +kernel) [some (.ref pt), none, none, none] rfl (Nat.le_of_ble_eq_true rfl) (fun φ hF hR => ?_)
  obtain ⟨ea, sa, y, st, B, mk, gn, kn, kr, hO, hea, hWR, hgn, hST, hkap⟩ := id hP
  dsimp only at hO hea hWR hST
  obtain ⟨g, ml, ws, va, qa, oe, dc, v_, q_, n_, m_, z_, f_, hS, hV, hQ, hk_⟩ := id hST
  obtain ⟨av, aq, ao, af, h1, ⟨ga, gb, gc, gd, nc, ec, jd, js, je, jk, hGP, hGE⟩, ⟨mz, mt, yz, yt, hMP, x1, x2⟩, ⟨wz, wt, uz, ut, hWP, x3⟩, h5, h6, h7, h8, h9, h10, h11⟩ := id hS
  obtain ⟨g1, g1'⟩ := id hGE.1
  subst g1
  subst g1'
  have hpt := hO.pt.1
  have hLB := hO.pt.2
  unfold LB at hLB
  have b0 := hGV.1.1
  have b1 := hGV.1.2.1
  have hP2 := hP
  have hF2 := FB.refl 0 5000 X
  have hl1 := hST.le
  have hl2 := hO.le
  have hl3 := hWR.mk
  refine j_ldc2 hF kc_RX7_239 dX7_digest_0 (j_lstore_n hF dX7_digest_3 (Nat.le_of_ble_eq_true rfl) rfl (j_iconst hF dX7_digest_4 (j_istore_n hF dX7_digest_5 (Nat.le_of_ble_eq_true rfl) rfl ?_)))
  have L6 : ∀ (n : Nat) (i : Nat) (kc0 ks0 : Nat), (4 - i) < n → i ≤ 4 → kc0 ≤ 0 → ks0 ≤ 0 → Jd φ X kc0 ks0 6 [some (.ref pt), some (.long (hf er i 2731)), none, some (vi (i : Int))] [] := by
    intro n
    induction n with
    | zero => intro i kc0 ks0 hfu; exact absurd hfu (by omega)
    | succ n ih =>
      intro i kc0 ks0 hfu hi hc1 hc2
      refine j_iload_n hF dX7_digest_6 rfl (j_iconst hF dX7_digest_7 (j_icmp_ge hF 28 dX7_digest_8 (by decide) (by omega) (fun c8 => ?_) (fun c8 => ?_)))
      ·
        refine j_aload_n hF dX7_digest_28 rfl (j_lload_n hF dX7_digest_29 rfl (j_callV hF (c_X7_mixGraph hpt hS hO.pt.2 hGV) ms_X7_mixGraph mv_X7_mixGraph lk_RX7_245 dX7_digest_30 hpt rfl rfl rfl (by simp [Value.category]) ⟨⟨(Nat.le_of_ble_eq_true rfl), (Nat.le_of_ble_eq_true rfl)⟩, by omega, by omega⟩ (fun v1 X1 hp1 hE1 => ?_)))
        obtain ⟨rfl, he1⟩ := hp1; obtain rfl := he1.symm
        refine j_lstore_n hF dX7_digest_33 (Nat.le_of_ble_eq_true rfl) rfl (j_iconst hF dX7_digest_34 (j_istore_n hF dX7_digest_35 (Nat.le_of_ble_eq_true rfl) rfl ?_))
        have LL : ∀ (n : Nat) (k : Int) (hh : Int64) (Y : Hp) (mk1 kc0 ks0 : Nat), (2 - k).toNat < n → 0 ≤ k ∧ k ≤ 2 → DB Y pt ea sa y st B g ml ws va qa oe dc v_ q_ m_ f_ r sv pf er kr → VV Y B v_ n_ z_ r → WR Y 100 y mk1 gn r → FB 0 5000 X Y → mk ≤ mk1 → kc0 ≤ 4 * (mk1 - mk) → ks0 ≤ 30400 * (mk1 - mk) → (k = 0 → hh = (h_edges r (r 1).toNat (mx (h_nodes r (r 0).toNat (mx (hf er 4 2731) (r 0))) (r 1)))) → (k = 1 → hh = h_wk r 0 (h_edges r (r 1).toNat (mx (h_nodes r (r 0).toNat (mx (hf er 4 2731) (r 0))) (r 1)))) → (k = 2 → hh = h_wk r 1 (h_wk r 0 (h_edges r (r 1).toNat (mx (h_nodes r (r 0).toNat (mx (hf er 4 2731) (r 0))) (r 1))))) → Jd φ Y kc0 ks0 36 [some (.ref pt), some (.long hh), none, some (vi k)] [] := by
          intro n
          induction n with
          | zero => intro k hh Y mk1 kc0 ks0 hfu; exact absurd hfu (by omega)
          | succ n ih =>
            intro k hh Y mk1 kc0 ks0 hfu hk hD hV hWR hFF hmk hkk hnn hh0 hh1 hh2
            have hpt := hD.1.pt.1
            have h1 := hD.2.2.1.o1
            have hl3 := hWR.mk
            refine j_iload_n hF dX7_digest_36 rfl (j_iconst hF dX7_digest_37 (j_icmp_ge hF 68 dX7_digest_38 (by decide) (by omega) (fun c38 => ?_) (fun c38 => ?_)))
            ·
              refine j_lload_n hF dX7_digest_68 rfl (j_aload_n hF dX7_digest_69 rfl (j_get hF hpt fl_RX7_27 dX7_digest_70 rfl (j_get hF h1 fl_RX7_226 dX7_digest_73 rfl (j_callS hF (c_X7_mix) ms_X7_mix mt_X7_mix lk_RX7_241 dX7_digest_76 rfl rfl rfl (by simp [Value.category]) ⟨⟨(Nat.le_of_ble_eq_true rfl), (Nat.le_of_ble_eq_true rfl)⟩, by omega, by omega⟩ (fun v1 X1 hp1 hE1 => ?_)))))
              obtain ⟨rfl, he1⟩ := hp1; obtain rfl := he1.symm
              refine j_lstore_n hF dX7_digest_79 (Nat.le_of_ble_eq_true rfl) rfl (j_lload_n hF dX7_digest_80 rfl (j_aload_n hF dX7_digest_81 rfl (j_get hF hpt fl_RX7_27 dX7_digest_82 rfl (j_get hF h1 fl_RX7_229 dX7_digest_85 rfl (j_callS hF (c_X7_mix) ms_X7_mix mt_X7_mix lk_RX7_241 dX7_digest_88 rfl rfl rfl (by simp [Value.category]) ⟨⟨(Nat.le_of_ble_eq_true rfl), (Nat.le_of_ble_eq_true rfl)⟩, by omega, by omega⟩ (fun v2 X2 hp2 hE2 => ?_))))))
              obtain ⟨rfl, he2⟩ := hp2; obtain rfl := he2.symm
              refine j_lstore_n hF dX7_digest_91 (Nat.le_of_ble_eq_true rfl) rfl (j_lload_n hF dX7_digest_92 rfl (j_aload_n hF dX7_digest_93 rfl (j_get hF hpt fl_RX7_232 dX7_digest_94 rfl (j_callS hF (c_X7_mix) ms_X7_mix mt_X7_mix lk_RX7_241 dX7_digest_97 rfl rfl rfl (by simp [Value.category]) ⟨⟨(Nat.le_of_ble_eq_true rfl), (Nat.le_of_ble_eq_true rfl)⟩, by omega, by omega⟩ (fun v3 X3 hp3 hE3 => ?_)))))
              obtain ⟨rfl, he3⟩ := hp3; obtain rfl := he3.symm
              refine j_lretv hF hR dX7_digest_100 (by omega) (by omega) ?_
              obtain rfl : k = 2 := by omega
              rw [hh2 rfl]
              refine ⟨rfl, kn + kr + 5067 * mk1, PP.mk hD.1 hD.2.1 hWR (by omega) ⟨_, _, _, _, _, _, _, _, _, _, _, _, _, hD.2.2.1, hV, hD.2.2.2, hk_⟩, hFF, by omega, by omega, by omega⟩
            ·
              refine j_aload_n hF dX7_digest_41 rfl (j_lload_n hF dX7_digest_42 rfl (j_iload_n hF dX7_digest_43 rfl (j_callV hF (c_X7_mixMail hpt hD.2.2.1 hD.1.pt.2 hGV (w := k) (by omega) hm) ms_X7_mixMail mv_X7_mixMail lk_RX7_249 dX7_digest_44 hpt rfl rfl rfl (by simp [Value.category]) ⟨⟨(Nat.le_of_ble_eq_true rfl), (Nat.le_of_ble_eq_true rfl)⟩, by omega, by omega⟩ (fun v4 X4 hp4 hE4 => ?_))))
              obtain ⟨rfl, he4⟩ := hp4; obtain rfl := he4.symm
              refine j_lstore_n hF dX7_digest_47 (Nat.le_of_ble_eq_true rfl) rfl (j_aload_n hF dX7_digest_48 rfl (j_lload_n hF dX7_digest_49 rfl (j_iload_n hF dX7_digest_50 rfl (j_callVv hF (c_X7_mixNotifications hpt hD.2.2.1 hV hD.1.pt.2 hGV hA hT hAP hvd hWR (by omega) (w := k) (by omega)) ms_X7_mixNotifications mv_X7_mixNotifications lk_RX7_252 dX7_digest_51 hpt rfl rfl rfl (by simp [Value.category]) ⟨⟨(Nat.le_of_ble_eq_true rfl), (Nat.le_of_ble_eq_true rfl)⟩, by omega, by omega⟩ (fun v5 X5 k5 n5 hp5 hE5 => ?_)))))
              obtain ⟨rfl, mk2, hmk2, hW2, hFw2, hkk2, hnn2⟩ := hp5
              have hm3 := hW2.mk
              have hD := hD.keep hFw2 (by omega)
              have hV := hV.keep hFw2 (by omega)
              have hpt := hD.1.pt.1
              refine j_lstore_n hF dX7_digest_54 (Nat.le_of_ble_eq_true rfl) rfl (j_aload_n hF dX7_digest_55 rfl (j_lload_n hF dX7_digest_56 rfl (j_iload_n hF dX7_digest_57 rfl (j_callVv hF (c_X7_mixView hD hV hGV hvd hW2 (by omega) (w := k) (by omega)) ms_X7_mixView mv_X7_mixView lk_RX7_255 dX7_digest_58 hpt rfl rfl rfl (by simp [Value.category]) ⟨⟨(Nat.le_of_ble_eq_true rfl), (Nat.le_of_ble_eq_true rfl)⟩, by omega, by omega⟩ (fun v6 X6 k6 n6 hp6 hE6 => ?_)))))
              obtain ⟨rfl, mk3, hD, hV, hmk3, hW3, hFw3, hkk3, hnn3⟩ := hp6
              have hm4 := hW3.mk
              rw [h_wk_eq]
              refine j_lstore_n hF dX7_digest_61 (Nat.le_of_ble_eq_true rfl) rfl (j_iinc hF dX7_digest_62 rfl (Nat.le_of_ble_eq_true rfl) rfl (j_goto hF 36 dX7_digest_65 (by decide) ?_))
              refine ih (k + 1) _ _ mk3 _ _ (by omega) (by omega) hD hV hW3 ((hFF.trans (hFw2.mono (by omega) (by omega))).trans hFw3) (by omega) (by omega) (by omega) (fun e => absurd e (by omega)) (fun e => ?_) (fun e => ?_)
              · obtain rfl : k = 0 := by omega
                rw [hh0 rfl]
              · obtain rfl : k = 1 := by omega
                rw [hh1 rfl]
        exact LL 3 0 _ X mk _ _ (by omega) (by omega) ⟨hO, hea, hS, hQ⟩ hV hWR (FB.refl _ _ X) (Nat.le_refl _) (by omega) (by omega) (fun _ => by rw [show i = 4 by omega]) (fun e => absurd e (by omega)) (fun e => absurd e (by omega))
      ·
        refine j_lload_n hF dX7_digest_11 rfl (j_aload_n hF dX7_digest_12 rfl (j_get hF hpt fl_RX7_9 dX7_digest_13 rfl (j_iload_n hF dX7_digest_16 rfl (j_iald hF hea dX7_digest_17 (by omega) (fun ra2 rb2 => ?_)))))
        refine j_callS hF (c_X7_mix) ms_X7_mix mt_X7_mix lk_RX7_241 dX7_digest_18 rfl rfl rfl (by simp [Value.category]) ⟨⟨(Nat.le_of_ble_eq_true rfl), (Nat.le_of_ble_eq_true rfl)⟩, by omega, by omega⟩ (fun v3 X3 hp3 hE3 => ?_)
        obtain ⟨rfl, he3⟩ := hp3; obtain rfl := he3.symm
        refine j_lstore_n hF dX7_digest_21 (Nat.le_of_ble_eq_true rfl) rfl (j_iinc hF dX7_digest_22 rfl (Nat.le_of_ble_eq_true rfl) rfl (j_goto hF 6 dX7_digest_25 (by decide) ?_))
        exact ih (i + 1) _ _ (by omega) (by omega) (by omega) (by omega)
  exact L6 5 0 _ _ (by omega) (by omega) (by omega) (by omega)

set_option maxRecDepth 100000 in
set_option maxHeartbeats 4000000 in
theorem c_X7_init {X : Hp} {pt : Nat} (h_p : X pt = some (0, ob 7 [.null, .null, .null, .null, vi 0])) : Ct yX7_init cX7_init 2 none 3 61 [.ref pt] X 119 2370 (fun rv X' => rv = none ∧ PP X' pt (96 + 288 + 5067 * 0) 0 (fun _ => 0, fun _ => 0, 0, fun _ => 0) ∧ FB 0 5000 X X') := by
  refine Ct.of (by decide +kernel) [some (.ref pt), none] rfl (Nat.le_of_ble_eq_true rfl) (fun φ hF hR => ?_)
  have hFF := FB.refl 0 5000 X
  refine j_aload_n hF dX7_init_0 rfl (j_obj hF lk_RX7_3 kl_oi kl_oc dX7_init_1 rfl (by decide) (Nat.le_of_ble_eq_true rfl) (Nat.le_of_ble_eq_true rfl) ?_)
  refine j_aload_n hF dX7_init_4 rfl (j_iconst hF dX7_init_5 (j_newi hF (1) (4) kl_ac dX7_init_6 (by decide) (by first | omega | (simp only [List.length_cons, List.length_nil]; omega)) (by first | omega | (simp only [List.length_cons, List.length_nil]; omega)) (fun a_ea hq1 => j_nm (fun X1 eX1 => ?_)) (by rfl)))
  have hFn1 : FB 0 0 X X1 := FB.new eX1 hq1
  have h_p := hFn1 _ _ _ h_p (by omega)
  have hFF := hFF.trans (hFn1.all)
  have h_ea := ups eX1
  refine j_putF hF h_p fl_RX7_9 ⟨_, _, rfl⟩ rfl dX7_init_8 rfl rfl (Nat.le_of_ble_eq_true rfl) (j_nm (fun X2 eX2 => ?_))
  have hFu2 : FB (0) (0 + 1) X1 X2 := FB.up eX2 h_p (by omega) (by omega)
  have h_ea := hFu2 _ _ _ h_ea (by omega)
  have hFF := hFF.trans (hFu2.mono (by omega) (by omega))
  have h_p := ups eX2
  refine j_aload_n hF dX7_init_11 rfl (j_iconst hF dX7_init_12 (j_newq hF (2) 2 (3) (by decide) rfl aw_RX7_13.1 aw_RX7_13.2 dX7_init_13 (by decide) (by first | omega | (simp only [List.length_cons, List.length_nil]; omega)) (by first | omega | (simp only [List.length_cons, List.length_nil]; omega)) (fun a_sa hq3 => j_nm (fun X3 eX3 => ?_)) (by rfl)))
  have hFn3 : FB 0 0 X2 X3 := FB.new eX3 hq3
  have h_ea := hFn3 _ _ _ h_ea (by omega)
  have h_p := hFn3 _ _ _ h_p (by omega)
  have hFF := hFF.trans (hFn3.all)
  have h_sa := ups eX3
  refine j_putF hF h_p fl_RX7_15 ⟨_, _, rfl⟩ rfl dX7_init_16 rfl rfl (Nat.le_of_ble_eq_true rfl) (j_nm (fun X4 eX4 => ?_))
  have hFu4 : FB (0) (0 + 1) X3 X4 := FB.up eX4 h_p (by omega) (by omega)
  have h_ea := hFu4 _ _ _ h_ea (by omega)
  have h_sa := hFu4 _ _ _ h_sa (by omega)
  have hFF := hFF.trans (hFu4.mono (by omega) (by omega))
  have h_p := ups eX4
  refine j_aload_n hF dX7_init_19 rfl (j_new hF (100) nw_RX7_19 dX7_init_20 (by first | omega | (simp only [List.length_cons, List.length_nil]; omega)) (by first | omega | (simp only [List.length_cons, List.length_nil]; omega)) (fun a_y hq5 => j_nm (fun X5 eX5 => ?_)))
  have hFn5 : FB 0 0 X4 X5 := FB.new eX5 hq5
  have h_ea := hFn5 _ _ _ h_ea (by omega)
  have h_sa := hFn5 _ _ _ h_sa (by omega)
  have h_p := hFn5 _ _ _ h_p (by omega)
  have hFF := hFF.trans (hFn5.all)
  have h_y := ups eX5
  refine j_dup hF dX7_init_23 rfl (j_callIN hF (c_X5_init h_y) ms_X5_init mi_X5_init ln_RX7_21 dX7_init_24 rfl rfl rfl (by simp [Value.category]) ⟨⟨(Nat.le_of_ble_eq_true rfl), (Nat.le_of_ble_eq_true rfl)⟩, by first | omega | (simp only [List.length_cons, List.length_nil]; omega), by first | omega | (simp only [List.length_cons, List.length_nil]; omega)⟩ (fun v6 X6 hp6 hE6 => ?_))
  obtain ⟨rfl, yl, yi, ys, yp, hN6⟩ := hp6
  have hFc6 : FB (100) (100 + 10) X5 X6 := hN6.2
  have h_ea := hFc6 _ _ _ h_ea (by omega)
  have h_sa := hFc6 _ _ _ h_sa (by omega)
  have h_p := hFc6 _ _ _ h_p (by omega)
  have hFF := hFF.trans (hFc6.mono (by omega) (by omega))
  have h_y := hN6.1
  refine j_putF hF h_p fl_RX7_22 ⟨_, _, rfl⟩ rfl dX7_init_27 rfl rfl (Nat.le_of_ble_eq_true rfl) (j_nm (fun X7 eX7 => ?_))
  have hFu7 : FB (0) (0 + 1) X6 X7 := FB.up eX7 h_p (by omega) (by omega)
  have h_ea := hFu7 _ _ _ h_ea (by omega)
  have h_sa := hFu7 _ _ _ h_sa (by omega)
  have h_y := h_y.keep hFu7 (by omega)
  have hFF := hFF.trans (hFu7.mono (by omega) (by omega))
  have h_p := ups eX7
  refine j_aload_n hF dX7_init_30 rfl (j_new hF (1000) nw_RX7_13 dX7_init_31 (by first | omega | (simp only [List.length_cons, List.length_nil]; omega)) (by first | omega | (simp only [List.length_cons, List.length_nil]; omega)) (fun a_st hq8 => j_nm (fun X8 eX8 => ?_)))
  have hFn8 : FB 0 0 X7 X8 := FB.new eX8 hq8
  have h_ea := hFn8 _ _ _ h_ea (by omega)
  have h_sa := hFn8 _ _ _ h_sa (by omega)
  have h_y := h_y.keep hFn8 (by omega)
  have h_p := hFn8 _ _ _ h_p (by omega)
  have hFF := hFF.trans (hFn8.all)
  have h_st := ups eX8
  refine j_dup hF dX7_init_34 rfl (j_callI hF (c_X2_init h_st) ms_X2_init mi_X2_init lk_RX7_26 dX7_init_35 rfl rfl rfl (by simp [Value.category]) ⟨⟨(Nat.le_of_ble_eq_true rfl), (Nat.le_of_ble_eq_true rfl)⟩, by first | omega | (simp only [List.length_cons, List.length_nil]; omega), by first | omega | (simp only [List.length_cons, List.length_nil]; omega)⟩ (fun v9 X9 hp9 hE9 => ?_))
  obtain ⟨rfl, hSt, hFc9⟩ := hp9
  have h_ea := hFc9 _ _ _ h_ea (by omega)
  have h_sa := hFc9 _ _ _ h_sa (by omega)
  have h_y := h_y.keep hFc9 (by omega)
  have h_p := hFc9 _ _ _ h_p (by omega)
  have hFF := hFF.trans (hFc9.mono (by omega) (by omega))
  obtain ⟨ol_st, h_st⟩ := hSt.obj
  refine j_put hF h_p fl_RX7_27 dX7_init_38 rfl rfl (Nat.le_of_ble_eq_true rfl) (j_nm (fun X10 eX10 => ?_))
  have hFu10 : FB (0) (0 + 1) X9 X10 := FB.up eX10 h_p (by omega) (by omega)
  have h_ea := hFu10 _ _ _ h_ea (by omega)
  have h_sa := hFu10 _ _ _ h_sa (by omega)
  have h_y := h_y.keep hFu10 (by omega)
  have h_st := hFu10 _ _ _ h_st (by omega)
  have hFF := hFF.trans (hFu10.mono (by omega) (by omega))
  have h_p := ups eX10
  refine j_iconst hF dX7_init_41 (j_istore_n hF dX7_init_42 (Nat.le_of_ble_eq_true rfl) rfl ?_)
  have LL : ∀ (n : Nat) (i : Nat) (Y : Hp) (fs : Int → Option Nat) (ad : Int → Nat) (kc0 ks0 : Nat), (3 - i) < n → i ≤ 3 → Y pt = some (0, ob 7 [.ref a_ea, .ref a_sa, .ref a_y, .ref a_st, vi 0]) → Y a_ea = some (1, ia 0 4 (fun _ => 0)) → YP Y 100 a_y yl yi ys yp 0 0 0 0 0 1 0 (fun _ => 0) (fun _ => 0) (fun _ => 0) (fun _ => 0) → Y a_sa = some (2, ra 2 3 fs) → ST Y 1000 a_st 96 (fun _ => 0) → FB 0 5000 X Y → (∀ j : Int, 0 ≤ j → j < (i : Int) → fs j = some (ad j) ∧ ST Y (2000 + 1000 * j.toNat) (ad j) 96 (fun _ => 0)) → kc0 ≤ 35 + 28 * i → ks0 ≤ 603 + 589 * i → Jd φ Y kc0 ks0 43 [some (.ref pt), some (vi (i : Int))] [] := by
    intro n
    induction n with
    | zero => intro i Y fs ad kc0 ks0 hfu; exact absurd hfu (by omega)
    | succ n ih =>
      intro i Y fs ad kc0 ks0 hfu hi h_p h_ea h_y h_sa hSt hFF hW_ hc1 hc2
      refine j_iload_n hF dX7_init_43 rfl (j_iconst hF dX7_init_44 (j_icmp_ge hF 67 dX7_init_45 (by decide) (by omega) (fun c45 => ?_) (fun c45 => ?_)))
      ·
        refine j_vret hF hR dX7_init_67 (by first | omega | (simp only [List.length_cons, List.length_nil]; omega)) (by first | omega | (simp only [List.length_cons, List.length_nil]; omega)) ?_
        have hWR : WR Y 100 a_y 0 1 (fun _ => 0) := WR.zero ⟨h_y, FB.refl _ _ Y⟩
        have hO : OT Y pt a_ea a_sa a_y a_st 1000 0 (fun _ => 0) 288 := by
          refine ⟨ad, fun j => 2000 + 1000 * j.toNat, fun _ => 96, fs, fun _ => fun _ => 0, h_p, h_sa, Or.inl rfl, fun j j1 j2 => ⟨(hW_ j j1 (by omega)).1, ⟨?_, ?_⟩, (hW_ j j1 (by omega)).2⟩, fun j k j1 j2 j3 => ?_, fun j j1 j2 => absurd j2 (by omega), rfl⟩
          · show LB (2000 + 1000 * j.toNat)
            unfold LB; omega
          · show ¬ 2000 + 1000 * j.toNat = 1000
            omega
          · show ¬ 2000 + 1000 * j.toNat = 2000 + 1000 * k.toNat
            omega
        exact ⟨rfl, PP.mk hO h_ea hWR (by omega) hSt, hFF⟩
      ·
        refine j_aload_n hF dX7_init_48 rfl (j_get hF h_p fl_RX7_15 dX7_init_49 rfl (j_iload_n hF dX7_init_52 rfl (j_new hF (2000 + 1000 * i) nw_RX7_13 dX7_init_53 (by first | omega | (simp only [List.length_cons, List.length_nil]; omega)) (by first | omega | (simp only [List.length_cons, List.length_nil]; omega)) (fun a_sx hq1 => j_nm (fun X1 eX1 => ?_)))))
        have hFn1 : FB 0 0 Y X1 := FB.new eX1 hq1
        have h_p := hFn1 _ _ _ h_p (by omega)
        have h_ea := hFn1 _ _ _ h_ea (by omega)
        have h_y := h_y.keep hFn1 (by omega)
        have h_sa := hFn1 _ _ _ h_sa (by omega)
        have hFF := hFF.trans (hFn1.all)
        have h_sx := ups eX1
        have hSt := hSt.keep hFn1 (by omega)
        have hW_ := fun j j1 j2 => (⟨(hW_ j j1 j2).1, (hW_ j j1 j2).2.keep hFn1 (by omega)⟩ : _ ∧ _)
        refine j_dup hF dX7_init_56 rfl (j_callI hF (c_X2_init h_sx) ms_X2_init mi_X2_init lk_RX7_26 dX7_init_57 rfl rfl rfl (by simp [Value.category]) ⟨⟨(Nat.le_of_ble_eq_true rfl), (Nat.le_of_ble_eq_true rfl)⟩, by first | omega | (simp only [List.length_cons, List.length_nil]; omega), by first | omega | (simp only [List.length_cons, List.length_nil]; omega)⟩ (fun v2 X2 hp2 hE2 => ?_))
        obtain ⟨rfl, hSn, hFc2⟩ := hp2
        have h_p := hFc2 _ _ _ h_p (by omega)
        have h_ea := hFc2 _ _ _ h_ea (by omega)
        have h_y := h_y.keep hFc2 (by omega)
        have h_sa := hFc2 _ _ _ h_sa (by omega)
        have hFF := hFF.trans (hFc2.mono (by omega) (by omega))
        have hSt := hSt.keep hFc2 (by omega)
        have hW_ := fun j j1 j2 => (⟨(hW_ j j1 j2).1, (hW_ j j1 j2).2.keep hFc2 (by omega)⟩ : _ ∧ _)
        obtain ⟨ol_sx, h_sx⟩ := hSn.obj
        refine j_aast hF (by decide) h_sa h_sx rfl dX7_init_60 (by omega) (j_nm (fun X3 eX3 => ?_))
        have hFu3 : FB (2) (2 + 1) X2 X3 := FB.up eX3 h_sa (by omega) (by omega)
        have h_p := hFu3 _ _ _ h_p (by omega)
        have h_ea := hFu3 _ _ _ h_ea (by omega)
        have h_y := h_y.keep hFu3 (by omega)
        have h_sx := hFu3 _ _ _ h_sx (by omega)
        have hFF := hFF.trans (hFu3.mono (by omega) (by omega))
        have h_sa := ups eX3
        have hSt := hSt.keep hFu3 (by omega)
        have hW_ := fun j j1 j2 => (⟨(hW_ j j1 j2).1, (hW_ j j1 j2).2.keep hFu3 (by omega)⟩ : _ ∧ _)
        have hSn := hSn.keep hFu3 (by omega)
        refine j_iinc hF dX7_init_61 rfl (Nat.le_of_ble_eq_true rfl) rfl (j_goto hF 43 dX7_init_64 (by decide) ?_)
        refine ih (i + 1) _ _ (fN ad i a_sx) _ _ (by omega) (by omega) h_p h_ea h_y h_sa hSt hFF (fun j j1 j2 => ?_) (by first | omega | (simp only [List.length_cons, List.length_nil]; omega)) (by first | omega | (simp only [List.length_cons, List.length_nil]; omega))
        by_cases e : j = i
        · subst e
          rw [fo_s, fN_s, show ((i : Nat) : Int).toNat = i by omega]
          exact ⟨rfl, hSn⟩
        · rw [fo_n e, fN_n e]
          exact hW_ j j1 (by omega)
  refine LL 4 0 _ _ (fun _ => 0) _ _ (by omega) (by omega) h_p h_ea h_y h_sa (hSt.keep hFu10 (by omega)) hFF (fun j j1 j2 => absurd j2 (by omega)) (by first | omega | (simp only [List.length_cons, List.length_nil]; omega)) (by first | omega | (simp only [List.length_cons, List.length_nil]; omega))

