theorem ST.zero {X : Hp} {B st g ml ws va qa oe dc d s e k mz mt wz wt : Nat} {fv fq : Int → Option Nat} {v q : Int → Nat} {fd : Int → Int}
    (h1 : X st = some (B, ob 2 [vi 0, vi 0, vi 0, .ref g, .ref ml, .ref ws, .ref va, .ref qa, .ref oe, .ref dc])) (hG : GP X (B + 10) g d s e k 0 0 (fun _ => 0) (fun _ => 0) (fun _ => 0) (fun _ => 0)) (hM : MP X (B + 20) ml mz mt (fun _ => 0) (fun _ => 0)) (hW : WP X (B + 30) ws wz wt (fun _ => 0) (fun _ => 0))
    (h5 : X va = some (B + 40, ra 4 2 fv)) (h6 : X qa = some (B + 50, ra 3 2 fq)) (h7 : X oe = some (B + 60, ia 0 6 (fun _ => 0))) (h8 : X dc = some (B + 61, ia 0 60 fd)) (hd : ∀ j, 0 ≤ j → j < 60 → fd j = -1)
    (h : ∀ w, 0 ≤ w → w ≤ 1 → (fv w = some (v w) ∧ fq w = some (q w)) ∧ VR X (B + 100 + 10 * w.toNat) (v w) 16 0 (fun _ => 0) ∧ QR X (B + 200 + 10 * w.toNat) (q w) 32 0 0 (fun _ => 0)) : ST X B st 96 (fun _ => 0) :=
  ⟨g, ml, ws, va, qa, oe, dc, v, q, fun _ => 16, fun _ => 32, fun _ => 0, fun _ => 0, ⟨fv, fq, _, fd, h1, ⟨d, s, e, k, _, _, _, _, _, _, hG, ⟨rfl, rfl⟩, fun _ _ _ => rfl, fun j j1 j2 => absurd (show j < 0 from j2) (by omega)⟩, ⟨mz, mt, _, _, hM, fun _ _ _ => rfl, fun _ _ _ => rfl⟩, ⟨wz, wt, _, _, hW, fun w _ _ => ⟨rfl, fun x => rfl⟩⟩, h5, h6, h7, h8, fun w w1 w2 => (h w w1 w2).1, fun _ _ _ => rfl, fun nd ep a1 a2 a3 a4 => Or.inl ⟨hd _ (by omega) (by omega), fun c _ _ h => absurd (show (0 : Int) = 1 from h) (by decide)⟩⟩, fun w w1 w2 => (h w w1 w2).2.1, fun w w1 w2 => (h w w1 w2).2.2, rfl⟩
set_option maxRecDepth 100000 in
set_option maxHeartbeats 4000000 in
theorem c_X2_init {X : Hp} {B st : Nat} (h_st : X st = some (B, ob 2 [vi 0, vi 0, vi 0, .null, .null, .null, .null, .null, .null, .null])) : Ct yX2_init cX2_init 2 none 2 40 [.ref st] X 27 579 (fun rv X' => rv = none ∧ ST X' B st 96 (fun _ => 0) ∧ FB B (B + 300) X X') := by
  refine Ct.of (by decide +kernel) [some (.ref st), none] rfl (Nat.le_of_ble_eq_true rfl) (fun φ hF hR => ?_)
  have hFF := FB.refl B (B + 300) X
  refine j_aload_n hF dX2_init_0 rfl (j_obj hF lk_RX2_3 kl_oi kl_oc dX2_init_1 rfl (by decide) (Nat.le_of_ble_eq_true rfl) (Nat.le_of_ble_eq_true rfl) ?_)
  refine j_aload_n hF dX2_init_4 rfl (j_new hF (B + 10) nw_RX2_9 dX2_init_5 (by first | omega | (simp only [List.length_cons, List.length_nil]; omega)) (by first | omega | (simp only [List.length_cons, List.length_nil]; omega)) (fun a_g hq1 => j_nm (fun X1 eX1 => ?_)))
  have hFn1 : FB 0 0 X X1 := FB.new eX1 hq1
  have h_st := hFn1 _ _ _ h_st (by omega)
  have hFF := hFF.trans (hFn1.all)
  have h_g := ups eX1
  refine j_dup hF dX2_init_8 rfl (j_callIN hF (c_X0_init h_g) ms_X0_init mi_X0_init ln_RX2_11 dX2_init_9 rfl rfl rfl (by simp [Value.category]) ⟨⟨(Nat.le_of_ble_eq_true rfl), (Nat.le_of_ble_eq_true rfl)⟩, by first | omega | (simp only [List.length_cons, List.length_nil]; omega), by first | omega | (simp only [List.length_cons, List.length_nil]; omega)⟩ (fun v2 X2 hp2 hE2 => ?_))
  obtain ⟨rfl, gd, gs, ge, gk, hN2⟩ := hp2
  have hFc2 : FB (B + 10) (B + 10 + 10) X1 X2 := hN2.2
  have h_st := hFc2 _ _ _ h_st (by omega)
  have hFF := hFF.trans (hFc2.mono (by omega) (by omega))
  have h_g := hN2.1
  refine j_putF hF h_st fl_RX2_12 ⟨_, _, rfl⟩ rfl dX2_init_12 rfl rfl (Nat.le_of_ble_eq_true rfl) (j_nm (fun X3 eX3 => ?_))
  have hFu3 : FB (B) (B + 1) X2 X3 := FB.up eX3 h_st (by omega) (by omega)
  have h_g := h_g.keep hFu3 (by omega)
  have hFF := hFF.trans (hFu3.mono (by omega) (by omega))
  have h_st := ups eX3
  refine j_aload_n hF dX2_init_15 rfl (j_new hF (B + 20) nw_RX2_18 dX2_init_16 (by first | omega | (simp only [List.length_cons, List.length_nil]; omega)) (by first | omega | (simp only [List.length_cons, List.length_nil]; omega)) (fun a_ml hq4 => j_nm (fun X4 eX4 => ?_)))
  have hFn4 : FB 0 0 X3 X4 := FB.new eX4 hq4
  have h_g := h_g.keep hFn4 (by omega)
  have h_st := hFn4 _ _ _ h_st (by omega)
  have hFF := hFF.trans (hFn4.all)
  have h_ml := ups eX4
  refine j_dup hF dX2_init_19 rfl (j_callIN hF (c_X1_init h_ml) ms_X1_init mi_X1_init ln_RX2_20 dX2_init_20 rfl rfl rfl (by simp [Value.category]) ⟨⟨(Nat.le_of_ble_eq_true rfl), (Nat.le_of_ble_eq_true rfl)⟩, by first | omega | (simp only [List.length_cons, List.length_nil]; omega), by first | omega | (simp only [List.length_cons, List.length_nil]; omega)⟩ (fun v5 X5 hp5 hE5 => ?_))
  obtain ⟨rfl, mz, mt, hN5⟩ := hp5
  have hFc5 : FB (B + 20) (B + 20 + 10) X4 X5 := hN5.2
  have h_g := h_g.keep hFc5 (by omega)
  have h_st := hFc5 _ _ _ h_st (by omega)
  have hFF := hFF.trans (hFc5.mono (by omega) (by omega))
  have h_ml := hN5.1
  refine j_putF hF h_st fl_RX2_21 ⟨_, _, rfl⟩ rfl dX2_init_23 rfl rfl (Nat.le_of_ble_eq_true rfl) (j_nm (fun X6 eX6 => ?_))
  have hFu6 : FB (B) (B + 1) X5 X6 := FB.up eX6 h_st (by omega) (by omega)
  have h_g := h_g.keep hFu6 (by omega)
  have h_ml := h_ml.keep hFu6 (by omega)
  have hFF := hFF.trans (hFu6.mono (by omega) (by omega))
  have h_st := ups eX6
  refine j_aload_n hF dX2_init_26 rfl (j_new hF (B + 30) nw_RX2_25 dX2_init_27 (by first | omega | (simp only [List.length_cons, List.length_nil]; omega)) (by first | omega | (simp only [List.length_cons, List.length_nil]; omega)) (fun a_ws hq7 => j_nm (fun X7 eX7 => ?_)))
  have hFn7 : FB 0 0 X6 X7 := FB.new eX7 hq7
  have h_g := h_g.keep hFn7 (by omega)
  have h_ml := h_ml.keep hFn7 (by omega)
  have h_st := hFn7 _ _ _ h_st (by omega)
  have hFF := hFF.trans (hFn7.all)
  have h_ws := ups eX7
  refine j_dup hF dX2_init_30 rfl (j_callIN hF (c_X6_init h_ws) ms_X6_init mi_X6_init ln_RX2_27 dX2_init_31 rfl rfl rfl (by simp [Value.category]) ⟨⟨(Nat.le_of_ble_eq_true rfl), (Nat.le_of_ble_eq_true rfl)⟩, by first | omega | (simp only [List.length_cons, List.length_nil]; omega), by first | omega | (simp only [List.length_cons, List.length_nil]; omega)⟩ (fun v8 X8 hp8 hE8 => ?_))
  obtain ⟨rfl, wz, wt, hN8⟩ := hp8
  have hFc8 : FB (B + 30) (B + 30 + 10) X7 X8 := hN8.2
  have h_g := h_g.keep hFc8 (by omega)
  have h_ml := h_ml.keep hFc8 (by omega)
  have h_st := hFc8 _ _ _ h_st (by omega)
  have hFF := hFF.trans (hFc8.mono (by omega) (by omega))
  have h_ws := hN8.1
  refine j_putF hF h_st fl_RX2_28 ⟨_, _, rfl⟩ rfl dX2_init_34 rfl rfl (Nat.le_of_ble_eq_true rfl) (j_nm (fun X9 eX9 => ?_))
  have hFu9 : FB (B) (B + 1) X8 X9 := FB.up eX9 h_st (by omega) (by omega)
  have h_g := h_g.keep hFu9 (by omega)
  have h_ml := h_ml.keep hFu9 (by omega)
  have h_ws := h_ws.keep hFu9 (by omega)
  have hFF := hFF.trans (hFu9.mono (by omega) (by omega))
  have h_st := ups eX9
  refine j_aload_n hF dX2_init_37 rfl (j_iconst hF dX2_init_38 (j_newq hF (B + 40) 4 (2) (by decide) rfl aw_RX2_32.1 aw_RX2_32.2 dX2_init_39 (by decide) (by first | omega | (simp only [List.length_cons, List.length_nil]; omega)) (by first | omega | (simp only [List.length_cons, List.length_nil]; omega)) (fun a_va hq10 => j_nm (fun X10 eX10 => ?_)) (by rfl)))
  have hFn10 : FB 0 0 X9 X10 := FB.new eX10 hq10
  have h_g := h_g.keep hFn10 (by omega)
  have h_ml := h_ml.keep hFn10 (by omega)
  have h_ws := h_ws.keep hFn10 (by omega)
  have h_st := hFn10 _ _ _ h_st (by omega)
  have hFF := hFF.trans (hFn10.all)
  have h_va := ups eX10
  refine j_putF hF h_st fl_RX2_34 ⟨_, _, rfl⟩ rfl dX2_init_42 rfl rfl (Nat.le_of_ble_eq_true rfl) (j_nm (fun X11 eX11 => ?_))
  have hFu11 : FB (B) (B + 1) X10 X11 := FB.up eX11 h_st (by omega) (by omega)
  have h_g := h_g.keep hFu11 (by omega)
  have h_ml := h_ml.keep hFu11 (by omega)
  have h_ws := h_ws.keep hFu11 (by omega)
  have h_va := hFu11 _ _ _ h_va (by omega)
  have hFF := hFF.trans (hFu11.mono (by omega) (by omega))
  have h_st := ups eX11
  refine j_aload_n hF dX2_init_45 rfl (j_iconst hF dX2_init_46 (j_newq hF (B + 50) 3 (2) (by decide) rfl aw_RX2_38.1 aw_RX2_38.2 dX2_init_47 (by decide) (by first | omega | (simp only [List.length_cons, List.length_nil]; omega)) (by first | omega | (simp only [List.length_cons, List.length_nil]; omega)) (fun a_qa hq12 => j_nm (fun X12 eX12 => ?_)) (by rfl)))
  have hFn12 : FB 0 0 X11 X12 := FB.new eX12 hq12
  have h_g := h_g.keep hFn12 (by omega)
  have h_ml := h_ml.keep hFn12 (by omega)
  have h_ws := h_ws.keep hFn12 (by omega)
  have h_va := hFn12 _ _ _ h_va (by omega)
  have h_st := hFn12 _ _ _ h_st (by omega)
  have hFF := hFF.trans (hFn12.all)
  have h_qa := ups eX12
  refine j_putF hF h_st fl_RX2_40 ⟨_, _, rfl⟩ rfl dX2_init_50 rfl rfl (Nat.le_of_ble_eq_true rfl) (j_nm (fun X13 eX13 => ?_))
  have hFu13 : FB (B) (B + 1) X12 X13 := FB.up eX13 h_st (by omega) (by omega)
  have h_g := h_g.keep hFu13 (by omega)
  have h_ml := h_ml.keep hFu13 (by omega)
  have h_ws := h_ws.keep hFu13 (by omega)
  have h_va := hFu13 _ _ _ h_va (by omega)
  have h_qa := hFu13 _ _ _ h_qa (by omega)
  have hFF := hFF.trans (hFu13.mono (by omega) (by omega))
  have h_st := ups eX13
  refine j_aload_n hF dX2_init_53 rfl (j_bipush hF dX2_init_54 (by decide) (j_newi hF (B + 60) (6) kl_ac dX2_init_56 (by decide) (by first | omega | (simp only [List.length_cons, List.length_nil]; omega)) (by first | omega | (simp only [List.length_cons, List.length_nil]; omega)) (fun a_oe hq14 => j_nm (fun X14 eX14 => ?_)) (by rfl)))
  have hFn14 : FB 0 0 X13 X14 := FB.new eX14 hq14
  have h_g := h_g.keep hFn14 (by omega)
  have h_ml := h_ml.keep hFn14 (by omega)
  have h_ws := h_ws.keep hFn14 (by omega)
  have h_va := hFn14 _ _ _ h_va (by omega)
  have h_qa := hFn14 _ _ _ h_qa (by omega)
  have h_st := hFn14 _ _ _ h_st (by omega)
  have hFF := hFF.trans (hFn14.all)
  have h_oe := ups eX14
  refine j_putF hF h_st fl_RX2_44 ⟨_, _, rfl⟩ rfl dX2_init_58 rfl rfl (Nat.le_of_ble_eq_true rfl) (j_nm (fun X15 eX15 => ?_))
  have hFu15 : FB (B) (B + 1) X14 X15 := FB.up eX15 h_st (by omega) (by omega)
  have h_g := h_g.keep hFu15 (by omega)
  have h_ml := h_ml.keep hFu15 (by omega)
  have h_ws := h_ws.keep hFu15 (by omega)
  have h_va := hFu15 _ _ _ h_va (by omega)
  have h_qa := hFu15 _ _ _ h_qa (by omega)
  have h_oe := hFu15 _ _ _ h_oe (by omega)
  have hFF := hFF.trans (hFu15.mono (by omega) (by omega))
  have h_st := ups eX15
  refine j_aload_n hF dX2_init_61 rfl (j_bipush hF dX2_init_62 (by decide) (j_newi hF (B + 61) (60) kl_ac dX2_init_64 (by decide) (by first | omega | (simp only [List.length_cons, List.length_nil]; omega)) (by first | omega | (simp only [List.length_cons, List.length_nil]; omega)) (fun a_dc hq16 => j_nm (fun X16 eX16 => ?_)) (by rfl)))
  have hFn16 : FB 0 0 X15 X16 := FB.new eX16 hq16
  have h_g := h_g.keep hFn16 (by omega)
  have h_ml := h_ml.keep hFn16 (by omega)
  have h_ws := h_ws.keep hFn16 (by omega)
  have h_va := hFn16 _ _ _ h_va (by omega)
  have h_qa := hFn16 _ _ _ h_qa (by omega)
  have h_oe := hFn16 _ _ _ h_oe (by omega)
  have h_st := hFn16 _ _ _ h_st (by omega)
  have hFF := hFF.trans (hFn16.all)
  have h_dc := ups eX16
  refine j_putF hF h_st fl_RX2_48 ⟨_, _, rfl⟩ rfl dX2_init_66 rfl rfl (Nat.le_of_ble_eq_true rfl) (j_nm (fun X17 eX17 => ?_))
  have hFu17 : FB (B) (B + 1) X16 X17 := FB.up eX17 h_st (by omega) (by omega)
  have h_g := h_g.keep hFu17 (by omega)
  have h_ml := h_ml.keep hFu17 (by omega)
  have h_ws := h_ws.keep hFu17 (by omega)
  have h_va := hFu17 _ _ _ h_va (by omega)
  have h_qa := hFu17 _ _ _ h_qa (by omega)
  have h_oe := hFu17 _ _ _ h_oe (by omega)
  have h_dc := hFu17 _ _ _ h_dc (by omega)
  have hFF := hFF.trans (hFu17.mono (by omega) (by omega))
  have h_st := ups eX17
  refine j_iconst hF dX2_init_69 (j_istore_n hF dX2_init_70 (Nat.le_of_ble_eq_true rfl) rfl ?_)
  have LL : ∀ (n : Nat) (i : Nat) (Y : Hp) (fv fq : Int → Option Nat) (v q : Int → Nat) (kc0 ks0 : Nat), (2 - i) < n → i ≤ 2 → Y st = some (B, ob 2 [vi 0, vi 0, vi 0, .ref a_g, .ref a_ml, .ref a_ws, .ref a_va, .ref a_qa, .ref a_oe, .ref a_dc]) → GP Y (B + 10) a_g gd gs ge gk 0 0 (fun _ => 0) (fun _ => 0) (fun _ => 0) (fun _ => 0) → MP Y (B + 20) a_ml mz mt (fun _ => 0) (fun _ => 0) → WP Y (B + 30) a_ws wz wt (fun _ => 0) (fun _ => 0) → Y a_va = some (B + 40, ra 4 2 fv) → Y a_qa = some (B + 50, ra 3 2 fq) → Y a_oe = some (B + 60, ia 0 6 (fun _ => 0)) → Y a_dc = some (B + 61, ia 0 60 (fun _ => 0)) → FB B (B + 300) X Y → (∀ w : Int, 0 ≤ w → w < (i : Int) → (fv w = some (v w) ∧ fq w = some (q w)) ∧ VR Y (B + 100 + 10 * w.toNat) (v w) 16 0 (fun _ => 0) ∧ QR Y (B + 200 + 10 * w.toNat) (q w) 32 0 0 (fun _ => 0)) → kc0 ≤ 15 + 6 * i → ks0 ≤ 405 + 87 * i → Jd φ Y kc0 ks0 71 [some (.ref st), some (vi (i : Int))] [] := by
    intro n
    induction n with
    | zero => intro i Y fv fq v q kc0 ks0 hfu; exact absurd hfu (by omega)
    | succ n ih =>
      intro i Y fv fq v q kc0 ks0 hfu hi h_st h_g h_ml h_ws h_va h_qa h_oe h_dc hFF hW_ hc1 hc2
      refine j_iload_n hF dX2_init_71 rfl (j_iconst hF dX2_init_72 (j_icmp_ge hF 108 dX2_init_73 (by decide) (by omega) (fun c73 => ?_) (fun c73 => ?_)))
      ·
        refine j_aload_n hF dX2_init_108 rfl (j_get hF h_st fl_RX2_48 dX2_init_109 rfl (j_iconst hF dX2_init_112 (j_callS hF (c_J7_fill_53178 h_dc (by omega) (by omega)) ms_J7_fill_53178 mt_J7_fill_53178 lk_RX2_53 dX2_init_113 rfl rfl rfl (by simp [Value.category]) ⟨⟨(Nat.le_of_ble_eq_true rfl), (Nat.le_of_ble_eq_true rfl)⟩, by first | omega | (simp only [List.length_cons, List.length_nil]; omega), by first | omega | (simp only [List.length_cons, List.length_nil]; omega)⟩ (fun v1 X1 hp1 hE1 => ?_))))
        obtain ⟨rfl, fd_, hdc, hfl, -, hFz⟩ := hp1
        have h_st := hFz _ _ _ h_st (by omega)
        have h_va := hFz _ _ _ h_va (by omega)
        have h_qa := hFz _ _ _ h_qa (by omega)
        have h_oe := hFz _ _ _ h_oe (by omega)
        have h_g := h_g.keep hFz (by omega)
        have h_ml := h_ml.keep hFz (by omega)
        have h_ws := h_ws.keep hFz (by omega)
        have hW_ := fun w_ w1 w2 => (⟨(hW_ w_ w1 w2).1, (hW_ w_ w1 w2).2.1.keep hFz (by omega), (hW_ w_ w1 w2).2.2.keep hFz (by omega)⟩ : _ ∧ _ ∧ _)
        have hFF := hFF.trans (hFz.mono (by omega) (by omega))
        refine j_vret hF hR dX2_init_116 (by first | omega | (simp only [List.length_cons, List.length_nil]; omega)) (by first | omega | (simp only [List.length_cons, List.length_nil]; omega)) ?_
        have hd : ∀ j, 0 ≤ j → j < 60 → fd_ j = -1 := hfl
        exact ⟨rfl, ST.zero h_st h_g h_ml h_ws h_va h_qa h_oe hdc hd (fun w_ w1 w2 => hW_ w_ w1 (by omega)), hFF⟩
      ·
        refine j_aload_n hF dX2_init_76 rfl (j_get hF h_st fl_RX2_34 dX2_init_77 rfl (j_iload_n hF dX2_init_80 rfl (j_new hF (B + 100 + 10 * i) nw_RX2_32 dX2_init_81 (by first | omega | (simp only [List.length_cons, List.length_nil]; omega)) (by first | omega | (simp only [List.length_cons, List.length_nil]; omega)) (fun a_vw hq2 => j_nm (fun X2 eX2 => ?_)))))
        have hFn2 : FB 0 0 Y X2 := FB.new eX2 hq2
        have h_st := hFn2 _ _ _ h_st (by omega)
        have h_g := h_g.keep hFn2 (by omega)
        have h_ml := h_ml.keep hFn2 (by omega)
        have h_ws := h_ws.keep hFn2 (by omega)
        have h_va := hFn2 _ _ _ h_va (by omega)
        have h_qa := hFn2 _ _ _ h_qa (by omega)
        have h_oe := hFn2 _ _ _ h_oe (by omega)
        have h_dc := hFn2 _ _ _ h_dc (by omega)
        have hFF := hFF.trans (hFn2.all)
        have h_vw := ups eX2
        have hW_ := fun w_ w1 w2 => (⟨(hW_ w_ w1 w2).1, (hW_ w_ w1 w2).2.1.keep hFn2 (by omega), (hW_ w_ w1 w2).2.2.keep hFn2 (by omega)⟩ : _ ∧ _ ∧ _)
        refine j_dup hF dX2_init_84 rfl (j_callIN hF (c_X4_init h_vw) ms_X4_init mi_X4_init ln_RX2_51 dX2_init_85 rfl rfl rfl (by simp [Value.category]) ⟨⟨(Nat.le_of_ble_eq_true rfl), (Nat.le_of_ble_eq_true rfl)⟩, by first | omega | (simp only [List.length_cons, List.length_nil]; omega), by first | omega | (simp only [List.length_cons, List.length_nil]; omega)⟩ (fun v3 X3 hp3 hE3 => ?_))
        obtain ⟨rfl, vs, vc_, vk, hN3⟩ := hp3
        have hFc3 : FB (B + 100 + 10 * i) (B + 100 + 10 * i + 10) X2 X3 := hN3.2
        have h_st := hFc3 _ _ _ h_st (by omega)
        have h_g := h_g.keep hFc3 (by omega)
        have h_ml := h_ml.keep hFc3 (by omega)
        have h_ws := h_ws.keep hFc3 (by omega)
        have h_va := hFc3 _ _ _ h_va (by omega)
        have h_qa := hFc3 _ _ _ h_qa (by omega)
        have h_oe := hFc3 _ _ _ h_oe (by omega)
        have h_dc := hFc3 _ _ _ h_dc (by omega)
        have hFF := hFF.trans (hFc3.mono (by omega) (by omega))
        have h_vw := hN3.1
        have hW_ := fun w_ w1 w2 => (⟨(hW_ w_ w1 w2).1, (hW_ w_ w1 w2).2.1.keep hFc3 (by omega), (hW_ w_ w1 w2).2.2.keep hFc3 (by omega)⟩ : _ ∧ _ ∧ _)
        have h_vw := h_vw.1
        have hR_vw := VR.new hN3
        refine j_aast hF (by decide) h_va h_vw rfl dX2_init_88 (by omega) (j_nm (fun X4 eX4 => ?_))
        have hFu4 : FB (B + 40) (B + 40 + 1) X3 X4 := FB.up eX4 h_va (by omega) (by omega)
        have h_st := hFu4 _ _ _ h_st (by omega)
        have h_g := h_g.keep hFu4 (by omega)
        have h_ml := h_ml.keep hFu4 (by omega)
        have h_ws := h_ws.keep hFu4 (by omega)
        have h_qa := hFu4 _ _ _ h_qa (by omega)
        have h_oe := hFu4 _ _ _ h_oe (by omega)
        have h_dc := hFu4 _ _ _ h_dc (by omega)
        have h_vw := hFu4 _ _ _ h_vw (by omega)
        have hFF := hFF.trans (hFu4.mono (by omega) (by omega))
        have h_va := ups eX4
        have hW_ := fun w_ w1 w2 => (⟨(hW_ w_ w1 w2).1, (hW_ w_ w1 w2).2.1.keep hFu4 (by omega), (hW_ w_ w1 w2).2.2.keep hFu4 (by omega)⟩ : _ ∧ _ ∧ _)
        have hR_vw := hR_vw.keep hFu4 (by omega)
        refine j_aload_n hF dX2_init_89 rfl (j_get hF h_st fl_RX2_40 dX2_init_90 rfl (j_iload_n hF dX2_init_93 rfl (j_new hF (B + 200 + 10 * i) nw_RX2_38 dX2_init_94 (by first | omega | (simp only [List.length_cons, List.length_nil]; omega)) (by first | omega | (simp only [List.length_cons, List.length_nil]; omega)) (fun a_qw hq5 => j_nm (fun X5 eX5 => ?_)))))
        have hFn5 : FB 0 0 X4 X5 := FB.new eX5 hq5
        have h_st := hFn5 _ _ _ h_st (by omega)
        have h_g := h_g.keep hFn5 (by omega)
        have h_ml := h_ml.keep hFn5 (by omega)
        have h_ws := h_ws.keep hFn5 (by omega)
        have h_qa := hFn5 _ _ _ h_qa (by omega)
        have h_oe := hFn5 _ _ _ h_oe (by omega)
        have h_dc := hFn5 _ _ _ h_dc (by omega)
        have h_vw := hFn5 _ _ _ h_vw (by omega)
        have h_va := hFn5 _ _ _ h_va (by omega)
        have hFF := hFF.trans (hFn5.all)
        have h_qw := ups eX5
        have hW_ := fun w_ w1 w2 => (⟨(hW_ w_ w1 w2).1, (hW_ w_ w1 w2).2.1.keep hFn5 (by omega), (hW_ w_ w1 w2).2.2.keep hFn5 (by omega)⟩ : _ ∧ _ ∧ _)
        have hR_vw := hR_vw.keep hFn5 (by omega)
        refine j_dup hF dX2_init_97 rfl (j_callIN hF (c_X3_init h_qw) ms_X3_init mi_X3_init ln_RX2_52 dX2_init_98 rfl rfl rfl (by simp [Value.category]) ⟨⟨(Nat.le_of_ble_eq_true rfl), (Nat.le_of_ble_eq_true rfl)⟩, by first | omega | (simp only [List.length_cons, List.length_nil]; omega), by first | omega | (simp only [List.length_cons, List.length_nil]; omega)⟩ (fun v6 X6 hp6 hE6 => ?_))
        obtain ⟨rfl, qu, hN6⟩ := hp6
        have hFc6 : FB (B + 200 + 10 * i) (B + 200 + 10 * i + 10) X5 X6 := hN6.2
        have h_st := hFc6 _ _ _ h_st (by omega)
        have h_g := h_g.keep hFc6 (by omega)
        have h_ml := h_ml.keep hFc6 (by omega)
        have h_ws := h_ws.keep hFc6 (by omega)
        have h_qa := hFc6 _ _ _ h_qa (by omega)
        have h_oe := hFc6 _ _ _ h_oe (by omega)
        have h_dc := hFc6 _ _ _ h_dc (by omega)
        have h_vw := hFc6 _ _ _ h_vw (by omega)
        have h_va := hFc6 _ _ _ h_va (by omega)
        have hFF := hFF.trans (hFc6.mono (by omega) (by omega))
        have h_qw := hN6.1
        have hW_ := fun w_ w1 w2 => (⟨(hW_ w_ w1 w2).1, (hW_ w_ w1 w2).2.1.keep hFc6 (by omega), (hW_ w_ w1 w2).2.2.keep hFc6 (by omega)⟩ : _ ∧ _ ∧ _)
        have hR_vw := hR_vw.keep hFc6 (by omega)
        have h_qw := h_qw.1
        have hR_qw := QR.new hN6 (fun _ => 0)
        refine j_aast hF (by decide) h_qa h_qw rfl dX2_init_101 (by omega) (j_nm (fun X7 eX7 => ?_))
        have hFu7 : FB (B + 50) (B + 50 + 1) X6 X7 := FB.up eX7 h_qa (by omega) (by omega)
        have h_st := hFu7 _ _ _ h_st (by omega)
        have h_g := h_g.keep hFu7 (by omega)
        have h_ml := h_ml.keep hFu7 (by omega)
        have h_ws := h_ws.keep hFu7 (by omega)
        have h_oe := hFu7 _ _ _ h_oe (by omega)
        have h_dc := hFu7 _ _ _ h_dc (by omega)
        have h_vw := hFu7 _ _ _ h_vw (by omega)
        have h_va := hFu7 _ _ _ h_va (by omega)
        have h_qw := hFu7 _ _ _ h_qw (by omega)
        have hFF := hFF.trans (hFu7.mono (by omega) (by omega))
        have h_qa := ups eX7
        have hW_ := fun w_ w1 w2 => (⟨(hW_ w_ w1 w2).1, (hW_ w_ w1 w2).2.1.keep hFu7 (by omega), (hW_ w_ w1 w2).2.2.keep hFu7 (by omega)⟩ : _ ∧ _ ∧ _)
        have hR_vw := hR_vw.keep hFu7 (by omega)
        have hR_qw := hR_qw.keep hFu7 (by omega)
        refine j_iinc hF dX2_init_102 rfl (Nat.le_of_ble_eq_true rfl) rfl (j_goto hF 71 dX2_init_105 (by decide) ?_)
        refine ih (i + 1) _ _ _ (fN v i a_vw) (fN q i a_qw) _ _ (by omega) (by omega) h_st h_g h_ml h_ws h_va h_qa h_oe h_dc hFF (fun w_ w1 w2 => ?_) (by first | omega | (simp only [List.length_cons, List.length_nil]; omega)) (by first | omega | (simp only [List.length_cons, List.length_nil]; omega))
        by_cases e : w_ = i
        · subst e
          rw [fo_s, fo_s, fN_s, fN_s]
          exact ⟨⟨rfl, rfl⟩, by rw [show ((i : Nat) : Int).toNat = i by omega]; exact hR_vw, by rw [show ((i : Nat) : Int).toNat = i by omega]; exact hR_qw⟩
        · rw [fo_n e, fo_n e, fN_n e, fN_n e]
          exact hW_ w_ w1 (by omega)
  refine LL 3 0 _ _ _ (fun _ => 0) (fun _ => 0) _ _ (by omega) (by omega) h_st h_g h_ml h_ws h_va h_qa h_oe h_dc hFF (fun w_ w1 w2 => absurd w2 (by omega)) (by first | omega | (simp only [List.length_cons, List.length_nil]; omega)) (by first | omega | (simp only [List.length_cons, List.length_nil]; omega))

