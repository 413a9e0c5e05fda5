theorem VR.k2 {X X1 : Hp} {b v n : Nat} {sz : Int} {f : Int → Int} (h : VR X b v n sz f) {b1 b2 : Nat} (hF : F2 b1 b2 X X1) (hd : b + 10 ≤ b1 ∨ b1 + 10 ≤ b) (hd2 : b + 10 ≤ b2 ∨ b2 + 10 ≤ b) : VR X1 b v n sz f := by
  obtain ⟨s, c, k, fs, fv, fk, hM, hV⟩ := h
  exact ⟨s, c, k, fs, fv, fk, ⟨hF _ _ _ hM.1 (by omega) (by omega), hF _ _ _ hM.2.1 (by omega) (by omega), hF _ _ _ hM.2.2.1 (by omega) (by omega), hF _ _ _ hM.2.2.2 (by omega) (by omega)⟩, hV⟩
theorem QR.k2 {X X1 : Hp} {b q n : Nat} {fi sz : Int} {g : Int → Int} (h : QR X b q n fi sz g) {b1 b2 : Nat} (hF : F2 b1 b2 X X1) (hd : b + 10 ≤ b1 ∨ b1 + 10 ≤ b) (hd2 : b + 10 ≤ b2 ∨ b2 + 10 ≤ b) : QR X1 b q n fi sz g := by
  obtain ⟨u, fq, hM, hV⟩ := h
  exact ⟨u, fq, ⟨hF _ _ _ hM.1 (by omega) (by omega), hF _ _ _ hM.2 (by omega) (by omega)⟩, hV⟩
theorem mv_rc {r : Int → Int} {w N : Int} (hI : RI r N) (hQ : QI r) (hw : 0 ≤ w ∧ w ≤ 1) (hN : 0 ≤ N) {n : Nat} {sz : Int} : ∀ k : Nat, k ≤ 8192 → ∀ x, 0 ≤ x → x < 16000 → (mv (fun i => r (38359 + 8192 * w + i)) n sz (fun x => r (6359 + 16000 * w + x)) k).2.2 x = m_rc r w k (6359 + 16000 * w + x)
  | 0, _, x, _, _ => rfl
  | k + 1, hk, x, x1, x2 => by
    have ih := mv_rc hI hQ hw hN (n := n) (sz := sz) k (by omega)
    have e1 := (m_rc_inv hI hQ hw hN k (by omega)).1 (38359 + 8192 * w + k) (by omega)
    have q1 := hQ (8192 * w + k) (by omega) (by omega)
    rw [show (38359 : Int) + (8192 * w + k) = 38359 + 8192 * w + k by omega] at q1
    rw [mv_s]
    simp only [m_rc]
    rw [e1]
    show fu (mv (fun i => r (38359 + 8192 * w + i)) n sz (fun x => r (6359 + 16000 * w + x)) k).2.2 (r (38359 + 8192 * w + k) / 2) ((mv (fun i => r (38359 + 8192 * w + i)) n sz (fun x => r (6359 + 16000 * w + x)) k).2.2 (r (38359 + 8192 * w + k) / 2) + sg (r (38359 + 8192 * w + k))) x = _
    rw [ih (r (38359 + 8192 * w + k) / 2) (by omega) (by omega)]
    by_cases q : x = r (38359 + 8192 * w + k) / 2
    · rw [q, fu_s, fu_s]; rfl
    · rw [fu_n q, fu_n (by omega)]; exact ih x x1 x2
theorem mrc_o {r : Int → Int} {w N : Int} (hI : RI r N) (hQ : QI r) (hw : 0 ≤ w ∧ w ≤ 1) (hN : 0 ≤ N) : ∀ k : Nat, k ≤ 8192 → ∀ x, 0 ≤ x → x < 16000 → m_rc r w k (6359 + 16000 * (1 - w) + x) = r (6359 + 16000 * (1 - w) + x)
  | 0, _, x, _, _ => rfl
  | k + 1, hk, x, x1, x2 => by
    have ih := mrc_o hI hQ hw hN k (by omega) x x1 x2
    have e1 := (m_rc_inv hI hQ hw hN k (by omega)).1 (38359 + 8192 * w + k) (by omega)
    have q1 := hQ (8192 * w + k) (by omega) (by omega)
    rw [show (38359 : Int) + (8192 * w + k) = 38359 + 8192 * w + k by omega] at q1
    simp only [m_rc]
    rw [e1, fu_n (by omega)]; exact ih
theorem mv_top {g f : Int → Int} {n : Nat} {sz : Int} (h1 : n ≤ 32002) (h2 : sz ≤ 16000) : ∀ i : Nat, (mv g n sz f i).1 ≤ 32002 + 2 * i ∧ (mv g n sz f i).2.1 ≤ 16000 + i
  | 0 => ⟨h1, by show sz ≤ 16000 + 0; omega⟩
  | i + 1 => by
    have ih := mv_top (g := g) (f := f) h1 h2 i
    rw [mv_s]
    refine ⟨?_, ?_⟩
    · show vc (mv g n sz f i).1 (mv g n sz f i).2.1 (mv g n sz f i).2.2 (g i / 2) ≤ _
      unfold vc mr
      (repeat' split) <;> omega
    · show vz (mv g n sz f i).2.1 (mv g n sz f i).2.2 (g i / 2) (sg (g i)) ≤ _
      unfold vz
      (repeat' split) <;> omega
theorem rv1_z {r : Int → Int} {w n N : Int} (hI : RI r N) (hQ : QI r) (hw : 0 ≤ w ∧ w ≤ 1) (hN : 0 ≤ N ∧ N < 8192) (hn : 0 ≤ n ∧ n ≤ r (357 + w)) : m_rv1 r w n (357 + w) = r (357 + w) - n := by
  have q := hI.q hw
  unfold m_rv1
  rw [fu_s, (m_rc_inv hI hQ hw hN.1 n.toNat (by omega)).1 _ (by omega)]
theorem rv_z {r : Int → Int} {w n N : Int} (hI : RI r N) (hQ : QI r) (hw : 0 ≤ w ∧ w ≤ 1) (hN : 0 ≤ N ∧ N < 8192) (hn : 0 ≤ n ∧ n ≤ r (357 + w)) : m_rv r w n (357 + w) = r (357 + w) - n := by
  unfold m_rv m_qs
  rw [if_neg (by omega)]
  exact rv1_z hI hQ hw hN hn
theorem rv_o {r : Int → Int} {w n N : Int} (hI : RI r N) (hQ : QI r) (hw : 0 ≤ w ∧ w ≤ 1) (hN : 0 ≤ N ∧ N < 8192) (hn : 0 ≤ n ∧ n ≤ r (357 + w)) {i : Int} (h1 : ¬ i = 357 + w) (h2 : i < 6359 ∨ 38359 ≤ i) (h3 : i < 38359 + 8192 * w ∨ 38359 + 8192 * w + (r (357 + w) - n) ≤ i) : m_rv r w n i = r i := by
  have q := hI.q hw
  unfold m_rv
  rw [rv1_z hI hQ hw hN hn]
  unfold m_qs
  rw [if_neg (by omega)]
  unfold m_rv1
  rw [fu_n h1]
  exact (m_rc_inv hI hQ hw hN.1 n.toNat (by omega)).1 _ h2
theorem rv_v {r : Int → Int} {w n N : Int} (hI : RI r N) (hQ : QI r) (hw : 0 ≤ w ∧ w ≤ 1) (hN : 0 ≤ N ∧ N < 8192) (hn : 0 ≤ n ∧ n ≤ r (357 + w)) {i : Int} (h1 : 6359 ≤ i) (h2 : i < 38359) : m_rv r w n i = m_rc r w n.toNat i := by
  unfold m_rv m_qs
  rw [if_neg (by omega)]
  unfold m_rv1
  rw [fu_n (by omega)]
theorem rv_q {r : Int → Int} {w n N : Int} (hI : RI r N) (hQ : QI r) (hw : 0 ≤ w ∧ w ≤ 1) (hN : 0 ≤ N ∧ N < 8192) (hn : 0 ≤ n ∧ n ≤ r (357 + w)) {i : Int} (h1 : 0 ≤ i) (h2 : i < r (357 + w) - n) : m_rv r w n (38359 + 8192 * w + i) = r (38359 + 8192 * w + (n + i)) := by
  have q := hI.q hw
  unfold m_rv
  rw [rv1_z hI hQ hw hN hn]
  unfold m_qs
  rw [if_pos (by omega)]
  unfold m_rv1
  rw [fu_n (by omega), (m_rc_inv hI hQ hw hN.1 n.toNat (by omega)).1 _ (by omega)]
  congr 1
  omega
set_option maxRecDepth 100000 in
set_option maxHeartbeats 4000000 in
theorem c_X7_receive {X : Hp} {pt kap : Nat} {ct : Int} {r pf : Int → Int} {sv : Int} {er : Int → Int} (hP : PP X pt kap ct (r, pf, sv, er)) (hGV : GV r) (hE : EI er)  {w c : Int} (hsv : 0 ≤ sv ∧ sv ≤ 3) (hA : AS r) {N : Int} (hI : RI r N) (hN : N + 12 < 6145) (h02 : r 2 = 0 ∨ r 2 = 1) (hC : CAN r) (hm : RM2 r) (ho : EO r) (hQI : QI r) (hN0 : 0 ≤ N) (h_w : -2147483648 ≤ w ∧ w ≤ 2147483647) (h_c : -2147483648 ≤ c ∧ c ≤ 2147483647) : Cv yX7_receive cX7_receive 3 (some .int) 6 145 [.ref pt, vi w, vi c] X (393155 - kap) (6 * (393155 - kap)) (fun rv X' kk nn => rv = some (vi (sp_receive (r, pf, sv, er) w c).1) ∧ PPQ X X' pt kap (ct + 1) (sp_receive (r, pf, sv, er) w c).2 kk nn) := by
  refine Cv.of (by decide +kernel) [some (.ref pt), some (vi w), some (vi c)] rfl (Nat.le_of_ble_eq_true rfl) (fun φ hF hR => ?_)
  obtain ⟨ea, sa, y, st, B, mk, gn, kn, kr, hO, hea, hWR, hgn, hST, hkap⟩ := id hP
  dsimp only at hO hea hWR hST
  obtain ⟨g, ml, ws, va, qa, oe, dc, v_, q_, n_, m_, z_, f_, hS, hV, hQ, hk_⟩ := id hST
  obtain ⟨av, aq, ao, af, h1, ⟨ga, gb, gc, gd, nc, ec, jd, js, je, jk, hGP, hGE⟩, ⟨mz, mt, yz, yt, hMP, x1, x2⟩, ⟨wz, wt, uz, ut, hWP, x3⟩, h5, h6, h7, h8, h9, h10, h11⟩ := id hS
  obtain ⟨g1, g1'⟩ := id hGE.1
  subst g1
  subst g1'
  have hpt := hO.pt.1
  have hLB := hO.pt.2
  unfold LB at hLB
  have b0 := hGV.1.1
  have b1 := hGV.1.2.1
  have hP2 := hP
  have hF2 := FB.refl 0 5000 X
  have hl1 := hST.le
  have hl2 := hO.le
  have hl3 := hWR.mk
  have hl4 : kpo n_ m_ = kn := hk_.symm
  refine j_iload_n hF dX7_receive_0 rfl (j_callS hF (c_X7_isWorker (by omega)) ms_X7_isWorker mt_X7_isWorker lk_RX7_111 dX7_receive_1 rfl rfl rfl (by simp [Value.category]) ⟨⟨(Nat.le_of_ble_eq_true rfl), (Nat.le_of_ble_eq_true rfl)⟩, by omega, by omega⟩ (fun v1 X1 hp1 hE1 => ?_))
  obtain ⟨rfl, he1⟩ := hp1; obtain rfl := he1.symm
  refine j_b_eq hF 18 dX7_receive_4 (by decide) (fun c4 => ?_) (fun c4 => ?_)
  ·
    refine j_aload_n hF dX7_receive_18 rfl (j_bipush hF dX7_receive_19 (by decide) (j_callV hF (c_X7_fail hP hE (by omega)) ms_X7_fail mv_X7_fail lk_RX7_35 dX7_receive_21 hpt rfl rfl rfl (by simp [Value.category]) ⟨⟨(Nat.le_of_ble_eq_true rfl), (Nat.le_of_ble_eq_true rfl)⟩, by omega, by omega⟩ (fun v2 X2 hp2 hE2 => ?_)))
    obtain ⟨rfl, hP2, hF2⟩ := hp2
    refine j_iretv hF hR dX7_receive_24 (by omega) (by omega) ?_
    refine PV ?_ (hP2.mono (by omega)) hF2 (by omega) (by omega) (by omega)
    unfold sp_receive
    first | exact pif_f (fun h => c4 h.1) | exact pif_f (fun h => absurd h.2.1 (by omega)) | exact pif_f (fun h => absurd h.2.2 (by omega))
  ·
    refine j_iload_n hF dX7_receive_7 rfl (j_iconst hF dX7_receive_8 (j_icmp_lt hF 18 dX7_receive_9 (by decide) (by omega) (fun c9 => ?_) (fun c9 => ?_)))
    ·
      refine j_aload_n hF dX7_receive_18 rfl (j_bipush hF dX7_receive_19 (by decide) (j_callV hF (c_X7_fail hP hE (by omega)) ms_X7_fail mv_X7_fail lk_RX7_35 dX7_receive_21 hpt rfl rfl rfl (by simp [Value.category]) ⟨⟨(Nat.le_of_ble_eq_true rfl), (Nat.le_of_ble_eq_true rfl)⟩, by omega, by omega⟩ (fun v3 X3 hp3 hE3 => ?_)))
      obtain ⟨rfl, hP2, hF2⟩ := hp3
      refine j_iretv hF hR dX7_receive_24 (by omega) (by omega) ?_
      refine PV ?_ (hP2.mono (by omega)) hF2 (by omega) (by omega) (by omega)
      unfold sp_receive
      first | exact pif_f (fun h => c4 h.1) | exact pif_f (fun h => absurd h.2.1 (by omega)) | exact pif_f (fun h => absurd h.2.2 (by omega))
    ·
      refine j_iload_n hF dX7_receive_12 rfl (j_bipush hF dX7_receive_13 (by decide) (j_icmp_le hF 25 dX7_receive_15 (by decide) (by omega) (fun c15 => ?_) (fun c15 => ?_)))
      ·
        refine j_aload_n hF dX7_receive_25 rfl (j_callVv hF (c_X7_save hO ⟨hea, hWR, hS, hV, hQ⟩ hsv hGV.1 hA hI (by omega) h02 hC) ms_X7_save mv_X7_save lk_RX7_53 dX7_receive_26 hpt rfl rfl rfl (by simp [Value.category]) ⟨⟨(Nat.le_of_ble_eq_true rfl), (Nat.le_of_ble_eq_true rfl)⟩, by omega, by omega⟩ (fun v4 X4 k4 n4 hp4 hE4 => ?_))
        obtain ⟨rfl, kr2, hO, ⟨hea, hWR, hS, hV, hQ⟩, hFF, hb1, hb2, hb3⟩ := hp4
        have hkl2 := hO.le
        have hpt := hO.pt.1
        have h1 := hS.o1
        obtain ⟨av2, aq2, -, -, -, -, -, -, h5, h6, -, -, h9, -, -⟩ := id hS
        obtain ⟨olq, hoq⟩ := (hQ w c4.1 c4.2).obj
        obtain ⟨olv, hov⟩ := (hV w c4.1 c4.2).obj
        have hqz := hI.q (w := w) c4
        have hcn : 0 ≤ (m_cnt r w c) ∧ (m_cnt r w c) ≤ r (357 + w) ∧ (m_cnt r w c) ≤ 99 ∧ (m_cnt r w c) = (if c ≤ r (357 + w) then c else r (357 + w)) := by
          unfold m_cnt
          by_cases q1 : r (357 + w) < c
          · rw [if_pos q1, if_neg (by omega)]; omega
          · rw [if_neg q1, if_pos (by omega)]; omega
        obtain ⟨kq, hkq⟩ : ∃ kq : Nat, kq = (m_cnt r w c).toNat := ⟨_, rfl⟩
        have ekq : (kq : Int) = (m_cnt r w c) := by omega
        obtain ⟨nv, hnv⟩ : ∃ nv, nv = (mv (fun i => r (38359 + 8192 * w + i)) (n_ w) (z_ w) (fun x => r (6359 + 16000 * w + x)) kq).1 := ⟨_, rfl⟩
        have hvt := mv_top (g := fun i => r (38359 + 8192 * w + i)) (f := fun x => r (6359 + 16000 * w + x)) (hV w c4.1 c4.2).room (hV w c4.1 c4.2).sz.2 kq
        rw [← hnv] at hvt
        have hvg := mv_le (g := fun i => r (38359 + 8192 * w + i)) (n := n_ w) (sz := z_ w) (f := fun x => r (6359 + 16000 * w + x)) (Nat.zero_le kq)
        rw [← hnv] at hvg
        have hvg : n_ w ≤ nv := hvg
        have hrm := ST.top hV hQ
        have hko : kpo n_ m_ ≤ n_ w + 64770 := by
          unfold kpo
          rcases (show w = 0 ∨ w = 1 by omega) with rfl | rfl
          · omega
          · omega
        have hqg : ∀ i, 0 ≤ i → i < r (357 + w) → 0 ≤ (fun i => r (38359 + 8192 * w + i)) i ∧ (fun i => r (38359 + 8192 * w + i)) i < 32000 := fun i i1 i2 => by have q := hQI (8192 * w + i) (by omega) (by omega); rw [show (38359 : Int) + (8192 * w + i) = 38359 + 8192 * w + i by omega] at q; exact q
        have hvf : ∀ x, 0 ≤ x → x < 16000 → -900000 ≤ (fun x => r (6359 + 16000 * w + x)) x ∧ (fun x => r (6359 + 16000 * w + x)) x ≤ 900000 := fun x x1 x2 => by have q := hI.1 (6359 + 16000 * w + x) (by omega) (by omega); show -900000 ≤ r (6359 + 16000 * w + x) ∧ r (6359 + 16000 * w + x) ≤ 900000; omega
        have hVW : ∀ (Y Z : Hp), VR Z (B + 100 + 10 * w.toNat) (v_ w) nv (mv (fun i => r (38359 + 8192 * w + i)) (n_ w) (z_ w) (fun x => r (6359 + 16000 * w + x)) kq).2.1 (mv (fun i => r (38359 + 8192 * w + i)) (n_ w) (z_ w) (fun x => r (6359 + 16000 * w + x)) kq).2.2 → F2 (B + 200 + 10 * w.toNat) (B + 100 + 10 * w.toNat) Y Z → VV Y B v_ n_ z_ r → VV Z B v_ (fN n_ w nv) (fu z_ w (mv (fun i => r (38359 + 8192 * w + i)) (n_ w) (z_ w) (fun x => r (6359 + 16000 * w + x)) kq).2.1) (m_rv r w (m_cnt r w c)) := by
          intro Y Z a1 a2 a3 u u1 u2
          by_cases qu : u = w
          · subst qu; rw [fN_s, fu_s]
            refine a1.cong (fun x x1 x2 => ?_)
            rw [mv_rc hI hQI c4 (by omega) kq (by omega) x x1 x2, rv_v hI hQI c4 ⟨by omega, by omega⟩ ⟨hcn.1, hcn.2.1⟩ (by omega) (by omega), hkq]
          · obtain rfl : u = 1 - w := by omega
            rw [fN_n qu, fu_n qu]
            refine ((a3 (1 - w) u1 u2).k2 a2 (by omega) (by omega)).cong (fun x x1 x2 => ?_)
            rw [rv_v hI hQI c4 ⟨by omega, by omega⟩ ⟨hcn.1, hcn.2.1⟩ (by omega) (by omega)]
            exact mrc_o hI hQI c4 (by omega) _ (by omega) x x1 x2
        have hQW : ∀ (Y Z : Hp), QR Z (B + 200 + 10 * w.toNat) (q_ w) (m_ w) (f_ w + (kq : Int)) (r (357 + w) - (kq : Int)) (fun i => r (38359 + 8192 * w + ((kq : Int) + i))) → F2 (B + 200 + 10 * w.toNat) (B + 100 + 10 * w.toNat) Y Z → QQ Y B q_ m_ f_ r → QQ Z B q_ m_ (fu f_ w (f_ w + (kq : Int))) (m_rv r w (m_cnt r w c)) := by
          intro Y Z a1 a2 a3 u u1 u2
          by_cases qu : u = w
          · subst qu; rw [fu_s, rv_z hI hQI c4 ⟨by omega, by omega⟩ ⟨hcn.1, hcn.2.1⟩, ← ekq]
            refine a1.cong (fun i i1 i2 => ?_)
            rw [ekq]
            exact rv_q hI hQI c4 ⟨by omega, by omega⟩ ⟨hcn.1, hcn.2.1⟩ i1 (by omega)
          · obtain rfl : u = 1 - w := by omega
            have hqo := hI.q (w := 1 - w) (by omega)
            rw [fu_n qu, rv_o hI hQI c4 ⟨by omega, by omega⟩ ⟨hcn.1, hcn.2.1⟩ (by omega) (by omega) (by omega)]
            refine ((a3 (1 - w) u1 u2).k2 a2 (by omega) (by omega)).cong (fun i i1 i2 => ?_)
            exact rv_o hI hQI c4 ⟨by omega, by omega⟩ ⟨hcn.1, hcn.2.1⟩ (by omega) (by omega) (by omega)
        refine j_aload_n hF dX7_receive_29 rfl (j_get hF hpt fl_RX7_27 dX7_receive_30 rfl (j_get hF h1 fl_RX7_185 dX7_receive_33 rfl (j_iload_n hF dX7_receive_36 rfl (j_aald hF (by decide) h6 dX7_receive_37 (by omega) (h9 w c4.1 c4.2).2 (j_aload_n hF dX7_receive_38 rfl ?_)))))
        refine j_get hF hpt fl_RX7_27 dX7_receive_39 rfl (j_get hF h1 fl_RX7_189 dX7_receive_42 rfl (j_iload_n hF dX7_receive_45 rfl (j_aald hF (by decide) h5 dX7_receive_46 (by omega) (h9 w c4.1 c4.2).1 (j_iload_n hF dX7_receive_47 rfl (j_callV hF (c_X3_moveTo (hQ w c4.1 c4.2) (hV w c4.1 c4.2) (by omega) (li := c) ⟨by omega, by omega⟩ (k := kq) (by rw [ekq]; exact hcn.2.2.2) (n' := nv) hnv hqg hvf) ms_X3_moveTo mv_X3_moveTo lk_RX7_193 dX7_receive_48 hoq rfl rfl rfl (by simp [Value.category]) ⟨⟨(Nat.le_of_ble_eq_true rfl), (Nat.le_of_ble_eq_true rfl)⟩, by omega, by omega⟩ (fun v5 X5 hp5 hE5 => ?_))))))
        obtain ⟨rfl, hQn, hVn, hF2_⟩ := hp5
        rw [ekq]
        refine j_iretv hF hR dX7_receive_51 (by omega) (by omega) ?_
        have hFq : FB (B + 100) (B + 300) _ _ := fun a l cc h hl => hF2_ a l cc h (by omega) (by omega)
        have hnn0 : 0 ≤ N := by omega
        have hrow : RQ r (m_rv r w (m_cnt r w c)) := fun i _ i2 => rv_o hI hQI c4 ⟨hnn0, by omega⟩ ⟨hcn.1, hcn.2.1⟩ (by omega) (by omega) (by omega)
        have hS := (hS.keep hFq (by omega)).row hGV.1 hA hrow
        have hV := hVW _ _ hVn hF2_ hV
        have hQ := hQW _ _ hQn hF2_ hQ
        have hsg : SG r (m_rv r w (m_cnt r w c)) := fun i i1 i2 _ _ => hrow i i1 (by omega)
        have hWR := (hWR.keep hFq (by omega)).row hGV.1 hsg
        have hkv := kpo_v (n := n_) (m_ := m_) c4 (n' := nv)
        have hSTn : ST _ B st (kpo (fN n_ w nv) m_) (m_rv r w (m_cnt r w c)) := ⟨g, ml, ws, va, qa, oe, dc, v_, q_, _, _, _, _, hS, hV, hQ, rfl⟩
        have hP2 := PP.mk (hO.keep hFq (by omega)) (hFq _ _ _ hea (by omega)) hWR (c := ct + 1) (by omega) hSTn
        refine PV ?_ hP2 (hFF.trans (hFq.mono (by omega) (by omega))) (by omega) (by omega) (by omega)
        unfold sp_receive
        exact pif_t ⟨c4, by omega⟩
      ·
        refine j_aload_n hF dX7_receive_18 rfl (j_bipush hF dX7_receive_19 (by decide) (j_callV hF (c_X7_fail hP hE (by omega)) ms_X7_fail mv_X7_fail lk_RX7_35 dX7_receive_21 hpt rfl rfl rfl (by simp [Value.category]) ⟨⟨(Nat.le_of_ble_eq_true rfl), (Nat.le_of_ble_eq_true rfl)⟩, by omega, by omega⟩ (fun v6 X6 hp6 hE6 => ?_)))
        obtain ⟨rfl, hP2, hF2⟩ := hp6
        refine j_iretv hF hR dX7_receive_24 (by omega) (by omega) ?_
        refine PV ?_ (hP2.mono (by omega)) hF2 (by omega) (by omega) (by omega)
        unfold sp_receive
        first | exact pif_f (fun h => c4 h.1) | exact pif_f (fun h => absurd h.2.1 (by omega)) | exact pif_f (fun h => absurd h.2.2 (by omega))

