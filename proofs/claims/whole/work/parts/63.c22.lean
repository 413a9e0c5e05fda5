theorem NV_e1 {r : Int → Int} {d k : Int} (h0 : 0 ≤ r 0 ∧ r 0 < 6) (hk : 0 ≤ k ∧ k ≤ 1) : ∀ x, 0 ≤ x → x < 16000 → NV r (m_node r d 1) (k + 1) (6359 + 16000 * k + x) = fu (fun x => NV r (m_node r d 1) k (6359 + 16000 * k + x)) (1000 * r 0 + 0) ((fun x => NV r (m_node r d 1) k (6359 + 16000 * k + x)) (1000 * r 0 + 0) + 1) x := by
  intro x x1 x2
  rw [NV_lt (by omega), mn_v h0 hk ⟨x1, x2⟩]
  by_cases q : x = 1000 * r 0 + 0
  · subst q
    rw [if_pos (by omega), fu_s]
    show _ = NV r (m_node r d 1) k (6359 + 16000 * k + (1000 * r 0 + 0)) + 1
    rw [NV_ge (by omega)]
  · rw [if_neg (by omega), fu_n q]
    show _ = NV r (m_node r d 1) k (6359 + 16000 * k + x)
    rw [NV_ge (by omega)]
theorem ST.top2 {X : Hp} {B : Nat} {v q n m_ : Int → Nat} {z fi r r2 : Int → Int} (h1 : VV X B v n z r) (h2 : QQ X B q m_ fi r2) : (n 0 ≤ 32002 ∧ n 1 ≤ 32002) ∧ m_ 0 ≤ 16384 ∧ m_ 1 ≤ 16384 := ⟨⟨(h1 0 (by omega) (by omega)).room, (h1 1 (by omega) (by omega)).room⟩, (h2 0 (by omega) (by omega)).room, (h2 1 (by omega) (by omega)).room⟩
theorem GE.node {r : Int → Int} {nc ec : Int} {fd fs fe fk : Int → Int} {d i : Int} (hG : GV r) (h0 : 0 ≤ r 0 ∧ r 0 < 6) (h : GE r nc ec fd fs fe fk) : GE (m_node r d i) (nc + 1) ec (fu fd nc d) fs fe fk := by
  obtain ⟨⟨g1, g1'⟩, g2, g3⟩ := h
  have b1 := hG.1.2.1
  subst g1
  refine ⟨⟨mn_0.symm, ?_⟩, fun j j1 j2 => ?_, fun j j1 j2 => ?_⟩
  · rw [mn_o h0 (by omega) (by omega) (by omega)]; exact g1'
  · rw [mn_d h0 ⟨j1, j2⟩]
    by_cases q : j = r 0
    · rw [if_pos q, q, fu_s]
    · rw [if_neg q, fu_n q]; exact g2 j j1 j2
  · rw [mn_o h0 (by omega) (by omega) (by omega)] at j2
    have g := hG.1.ed j j1 (by omega)
    have gg := (hG.2.1 j j1 j2).1
    have ek : m_kind (m_node r d i) j = m_kind r j := by
      have e1 : m_node r d i (5 + r (27 + j)) = r (5 + r (27 + j)) := by rw [mn_d h0 (by omega), if_neg (by omega)]
      have e2 : m_node r d i (5 + r (17 + j)) = r (5 + r (17 + j)) := by rw [mn_d h0 (by omega), if_neg (by omega)]
      unfold m_kind
      rw [mn_o h0 (j := 37 + j) (by omega) (by omega) (by omega), mn_o h0 (j := 27 + j) (by omega) (by omega) (by omega), mn_o h0 (j := 17 + j) (by omega) (by omega) (by omega), e1, e2]
    rw [mn_o h0 (j := 17 + j) (by omega) (by omega) (by omega), mn_o h0 (j := 27 + j) (by omega) (by omega) (by omega), ek]
    exact g3 j j1 j2
set_option maxRecDepth 100000 in
set_option maxHeartbeats 4000000 in
theorem c_X2_appendNode {X : Hp} {B st kap : Nat} {r : Int → Int} (hST : ST X B st kap r) {x zi N : Int} (hG : GV r) (hA : AS r) (hI : RI r N) (hN : N < 6144) (h0 : 0 ≤ r 0 ∧ r 0 < 6) (hx : 0 ≤ x ∧ x ≤ 2) (hz : 0 ≤ zi ∧ zi ≤ 1) : Cv yX2_appendNode cX2_appendNode 5 (some .int) 5 120 [.ref st, vi x, vi zi] X (96772 - kap) (6 * (96772 - kap)) (fun rv X' k n => rv = some (vi (r 0)) ∧ ∃ kap', ST X' B st kap' (m_node r x zi) ∧ FB (B + 10) (B + 300) X X' ∧ kap ≤ kap' ∧ k ≤ kap' - kap ∧ n ≤ 6 * (kap' - kap)) := by
  refine Cv.of (by decide +kernel) [some (.ref st), some (vi x), some (vi zi), none, none] rfl (Nat.le_of_ble_eq_true rfl) (fun φ hF hR => ?_)
  obtain ⟨g, ml, ws, va, qa, oe, dc, v, q, n, m_, z, fi, hS, hV, hQ, hk⟩ := hST
  obtain ⟨fv, fq, fo, fd, h1, ⟨d, s, e_, k_, nc, ec, gd, gs, ge, gk, hGP, hGE⟩, hMR, hHR, h5, h6, h7, h8, h9, h10, h11⟩ := id hS
  refine j_aload_n hF dX2_appendNode_0 rfl (j_get hF h1 fl_RX2_12 dX2_appendNode_1 rfl (j_iload_n hF dX2_appendNode_4 rfl (j_callV hF (c_X0_appendNode hGP (by rw [hGE.1.1]; exact h0) hx) ms_X0_appendNode mv_X0_appendNode lk_RX2_59 dX2_appendNode_5 hGP.1 rfl rfl rfl (by simp [Value.category]) ⟨⟨(Nat.le_of_ble_eq_true rfl), (Nat.le_of_ble_eq_true rfl)⟩, by omega, by omega⟩ (fun v1 X1 hp1 hE1 => ?_))))
  obtain ⟨rfl, hG1⟩ := hp1
  have hFg : FB (B + 10) (B + 20) X X1 := hG1.2
  obtain ⟨g1, g1'⟩ := hGE.1
  subst g1
  have hGP := hG1.1
  have h1 := hFg _ _ _ h1 (by omega)
  have h7 := hFg _ _ _ h7 (by omega)
  have J23 : ∀ vv : Int, vv = (if zi = 1 then 0 else -1) → Jd φ X1 0 0 23 [some (.ref st), some (vi x), some (vi zi), some (vi (r 0)), none] [vi vv, vi (r 0), .ref oe] := by
    intro vv hvv
    refine j_iast hF h7 dX2_appendNode_23 (by omega) (by rw [hvv]; split <;> omega) (j_nm (fun X2 eX2 => ?_))
    have hFo : FB (B + 60) (B + 61) X1 X2 := FB.up eX2 h7 (by omega) (by omega)
    have hFF : FB (B + 10) (B + 300) X X2 := (hFg.mono (by omega) (by omega)).trans (hFo.mono (by omega) (by omega))
    have hS : SS X2 B st g ml ws va qa oe dc v q (m_node r x zi) := by
      refine ⟨fv, fq, _, fd, ?_, ⟨d, s, e_, k_, _, ec, _, gs, ge, gk, hGP.keep hFo (by omega), hGE.node hG h0⟩, ((hMR.keep hFg (by omega)).keep hFo (by omega)).row (fun i i1 i2 => mn_o h0 (by omega) (by omega) (by omega)), ((hHR.keep hFg (by omega)).keep hFo (by omega)).row hA (fun i i1 i2 => mn_o h0 (by omega) (by omega) (by omega)), hFo _ _ _ (hFg _ _ _ h5 (by omega)) (by omega), hFo _ _ _ (hFg _ _ _ h6 (by omega)) (by omega), ups eX2, hFo _ _ _ (hFg _ _ _ h8 (by omega)) (by omega), h9, fun j j1 j2 => ?_, h11.row (fun i i1 i2 => mn_o h0 (by omega) (by omega) (by omega))⟩
      · rw [mn_o h0 (by omega) (by omega) (by omega), mn_o h0 (by omega) (by omega) (by omega), mn_o h0 (by omega) (by omega) (by omega)]; exact hFo _ _ _ h1 (by omega)
      · rw [mn_e h0 ⟨j1, j2⟩, ← hvv]
        by_cases q : j = r 0
        · rw [if_pos q, q, fu_s]
        · rw [if_neg q, fu_n q]; exact h10 j j1 j2
    have h1 := hS.o1
    have hV := (hV.keep hFg (by omega)).keep hFo (by omega)
    have hQ := ((hQ.keep hFg (by omega)).keep hFo (by omega)).row (r' := (m_node r x zi)) (fun i i1 i2 => mn_o h0 (by omega) (by omega) (by omega))
    refine j_iload_n hF dX2_appendNode_24 rfl (j_if_eq hF 59 dX2_appendNode_25 (by decide) (by omega) (fun c25 => ?_) (fun c25 => ?_))
    ·
      refine j_iload_n hF dX2_appendNode_59 rfl (j_iretv hF hR dX2_appendNode_60 (by omega) (by omega) ?_)
      obtain rfl : zi = 0 := by omega
      have hV : VV X2 B v n z (m_node r x 0) := fun w w1 w2 => (hV w w1 w2).cong (fun x x1 x2 => by rw [mn_v h0 ⟨w1, w2⟩ ⟨x1, x2⟩]; split <;> omega)
      exact ⟨rfl, _, ⟨_, _, _, _, _, _, _, _, _, _, _, _, _, hS, hV, hQ, rfl⟩, hFF, by omega, by omega, by omega⟩
    ·
      refine j_iconst hF dX2_appendNode_28 (j_istore hF dX2_appendNode_29 (Nat.le_of_ble_eq_true rfl) rfl ?_)
      obtain rfl : zi = 1 := by omega
      have LL : ∀ (n : Nat) (Y : Hp) (n1 : Int → Nat) (z1 : Int → Int) (kc0 ks0 : Nat) (k : Int), (2 - k).toNat < n → 0 ≤ k ∧ k ≤ 2 → SS Y B st g ml ws va qa oe dc v q (m_node r x 1) → VV Y B v n1 z1 (NV r (m_node r x 1) k) → QQ Y B q m_ fi (m_node r x 1) → FB (B + 10) (B + 300) X Y → kap ≤ kpo n1 m_ → kc0 ≤ kpo n1 m_ - kap → ks0 ≤ 6 * (kpo n1 m_ - kap) → Jd φ Y kc0 ks0 31 [some (.ref st), some (vi x), some (vi 1), some (vi (r 0)), some (vi k)] [] := by
        intro n
        induction n with
        | zero => intro Y n1 z1 kc0 ks0 k hfu; exact absurd hfu (by omega)
        | succ n ih =>
          intro Y n1 z1 kc0 ks0 k hfu hk_ hS hV hQ hFF hc0 hc1 hc2
          have kt0 := ST.top2 hV hQ
          have kt1 := kpo_top (w := k) (u := 0) (a := 0) (b := 0) kt0 (by omega) (by omega)
          obtain ⟨fv, fq, fo, fd, h1, -, -, -, h5, -, -, -, h9, -⟩ := id hS
          have hcs : k < 2 → ∃ nv ol, nv = vc (n1 k) (z1 k) (fun y => NV r (m_node r x 1) k (6359 + 16000 * k + y)) (1000 * r 0 + 0) ∧ n1 k ≤ nv ∧ kpo (fN n1 k nv) m_ ≤ 96772 ∧ kpo (fN n1 k nv) m_ + n1 k = kpo n1 m_ + nv ∧ Y (v k) = some (B + 100 + 10 * k.toNat, ob 4 ol) ∧ -1000000 ≤ (fun y => NV r (m_node r x 1) k (6359 + 16000 * k + y)) (1000 * r 0 + 0) ∧ (fun y => NV r (m_node r x 1) k (6359 + 16000 * k + y)) (1000 * r 0 + 0) ≤ 1000000 := by
            intro hk2
            obtain ⟨ol, ho⟩ := (hV k hk_.1 (by omega)).obj
            have q1 := vc_top (x := 1000 * r 0 + 0) (hV k hk_.1 (by omega))
            have q2 := hI.1 (6359 + 16000 * k + (1000 * r 0 + 0)) (by omega) (by omega)
            refine ⟨_, ol, rfl, vc_ge _ _ _ _, (kpo_top (w := k) (u := 0) (b := 0) kt0 q1 (by omega)).2.1, kpo_v (by omega), ho, ?_⟩
            show -1000000 ≤ NV r (m_node r x 1) k (6359 + 16000 * k + (1000 * r 0 + 0)) ∧ NV r (m_node r x 1) k (6359 + 16000 * k + (1000 * r 0 + 0)) ≤ 1000000
            rw [NV_ge (by omega)]
            omega
          refine j_iload hF dX2_appendNode_31 rfl (j_iconst hF dX2_appendNode_33 (j_icmp_ge hF 59 dX2_appendNode_34 (by decide) (by omega) (fun c34 => ?_) (fun c34 => ?_)))
          ·
            refine j_iload_n hF dX2_appendNode_59 rfl (j_iretv hF hR dX2_appendNode_60 (by omega) (by omega) ?_)
            obtain rfl : k = 2 := by omega
            have hV : VV Y B v n1 z1 (m_node r x 1) := fun w w1 w2 => (hV w w1 w2).cong (fun x x1 x2 => (NV_lt (by omega)).symm)
            exact ⟨rfl, _, ⟨_, _, _, _, _, _, _, _, _, _, _, _, _, hS, hV, hQ, rfl⟩, hFF, by omega, by omega, by omega⟩
          ·
            obtain ⟨nv, ol, hnv, hn1, hn2, hn3, hob, hfr⟩ := hcs (by omega)
            clear hcs
            refine j_aload_n hF dX2_appendNode_37 rfl (j_get hF h1 fl_RX2_34 dX2_appendNode_38 rfl (j_iload hF dX2_appendNode_41 rfl (j_aald hF (by decide) h5 dX2_appendNode_43 (by omega) (h9 k hk_.1 (by omega)).1 (j_iload_n hF dX2_appendNode_44 rfl (j_iconst hF dX2_appendNode_45 ?_)))))
            refine j_callSN hF (c_X7_stampOf) ms_X7_stampOf mt_X7_stampOf ln_RX2_63 dX2_appendNode_46 rfl rfl rfl (by simp [Value.category]) ⟨⟨(Nat.le_of_ble_eq_true rfl), (Nat.le_of_ble_eq_true rfl)⟩, by omega, by omega⟩ (fun v1 X1 hp1 hE1 => ?_)
            obtain ⟨rfl, he1⟩ := hp1; obtain rfl := he1.symm
            refine j_iconst hF dX2_appendNode_49 (j_callV hF (c_X4_change (hV k hk_.1 (by omega)) (n' := nv) hnv (by omega) (by omega) hfr) ms_X4_change mv_X4_change lk_RX2_67 dX2_appendNode_50 hob rfl rfl rfl (by simp [Value.category]) ⟨⟨(Nat.le_of_ble_eq_true rfl), (Nat.le_of_ble_eq_true rfl)⟩, by omega, by omega⟩ (fun v2 X2 hp2 hE2 => ?_))
            obtain ⟨rfl, hVn, hF2⟩ := hp2
            have hS := hS.keep hF2 (by omega)
            have hV := hV.set (w := k) (by omega) hVn hF2 (NV_e1 h0 (by omega)) (fun x x1 x2 => NV_o (by omega) ⟨x1, x2⟩)
            have hQ := hQ.keep hF2 (by omega)
            have hFF := hFF.trans (hF2.mono (by omega) (by omega))
            refine j_iinc hF dX2_appendNode_53 rfl (Nat.le_of_ble_eq_true rfl) rfl (j_goto hF 31 dX2_appendNode_56 (by decide) ?_)
            refine ih _ (fN n1 k nv) _ _ _ (k + 1) ?_ ?_ hS hV hQ hFF ?_ ?_ ?_ <;> omega
      exact LL 3 _ _ _ _ _ 0 (by omega) (by omega) hS (hV.row (fun i i1 => NV_ge (by omega))) hQ hFF (by omega) (by omega) (by omega)
  refine j_istore_n hF dX2_appendNode_8 (Nat.le_of_ble_eq_true rfl) rfl (j_aload_n hF dX2_appendNode_9 rfl (j_get hF h1 fl_RX2_44 dX2_appendNode_10 rfl (j_iload_n hF dX2_appendNode_13 rfl (j_iload_n hF dX2_appendNode_14 rfl (j_if_eq hF 22 dX2_appendNode_15 (by decide) (by omega) (fun c15 => ?_) (fun c15 => ?_))))))
  ·
    refine j_iconst hF dX2_appendNode_22 ?_
    exact J23 _ (by rw [if_neg (by omega)])
  ·
    refine j_iconst hF dX2_appendNode_18 (j_goto hF 23 dX2_appendNode_19 (by decide) ?_)
    exact J23 _ (by rw [if_pos (by omega)])

