theorem GE.copy {r : Int → Int} {nc ec : Int} {fd fs fe fk : Int → Int} (hG : GI r) (h : GE r nc ec fd fs fe fk) (gd gs ge gk : Int → Int) : GE r nc ec (fc fd gd 0 0 6) (fc fs gs 0 0 10) (fc fe ge 0 0 10) (fc fk gk 0 0 10) := by
  have b1 := hG.2.1
  refine ⟨h.1, fun j j1 j2 => ?_, fun j j1 j2 => ?_⟩
  · rw [fcS j1 j2]; exact h.2.1 j j1 j2
  · rw [fcS j1 (by omega), fcS j1 (by omega), fcS j1 (by omega)]; exact h.2.2 j j1 j2
theorem DR.copy {r fd : Int → Int} (h : DR r fd) (gd : Int → Int) : DR r (fc fd gd 0 0 60) := fun nd ep a1 a2 a3 a4 => by
  rw [fcS (by omega) (by omega)]; exact h nd ep a1 a2 a3 a4
/-- the first part of a State that is being copied -/
def SX (X : Hp) (B st g ml ws va qa oe dc : Nat) (v q : Int → Nat) (r : Int → Int) : Prop := ∃ (fv fq : Int → Option Nat) (fo fd : Int → Int),
  X st = some (B, ob 2 [vi (r 2), vi (r 3), vi (r 4), .ref g, .ref ml, .ref ws, .ref va, .ref qa, .ref oe, .ref dc])
  ∧ GR X (B + 10) g r ∧ MR X (B + 20) ml r ∧ HR X (B + 30) ws r ∧ X va = some (B + 40, ra 4 2 fv) ∧ X qa = some (B + 50, ra 3 2 fq) ∧ X oe = some (B + 60, ia 0 6 fo) ∧ X dc = some (B + 61, ia 0 60 fd)
  ∧ (∀ w, 0 ≤ w → w ≤ 1 → fv w = some (v w) ∧ fq w = some (q w))
theorem SX.keep {X X1 : Hp} {B st g ml ws va qa oe dc : Nat} {v q : Int → Nat} {r : Int → Int} (h : SX X B st g ml ws va qa oe dc v q r) {lo hi : Nat} (hF : FB lo hi X X1) (hd : B + 100 ≤ lo ∨ hi ≤ B) : SX X1 B st g ml ws va qa oe dc v q r := by
  obtain ⟨fv, fq, fo, fd, h1, h2, h3, h4, h5, h6, h7, h8, h9⟩ := h
  exact ⟨fv, fq, fo, fd, hF _ _ _ h1 (by omega), h2.keep hF (by omega), h3.keep hF (by omega), h4.keep hF (by omega), hF _ _ _ h5 (by omega), hF _ _ _ h6 (by omega), hF _ _ _ h7 (by omega), hF _ _ _ h8 (by omega), h9⟩
theorem VR.sz {X : Hp} {b v n : Nat} {sz : Int} {f : Int → Int} (h : VR X b v n sz f) : 0 ≤ sz ∧ sz ≤ 16000 := by
  obtain ⟨s, c, k, fs, fv, fk, hM, hV, h1, h2⟩ := h
  exact hV.top
theorem cq_rg {X : Hp} {b q n2 n : Nat} {fi sz : Int} {g : Int → Int} (h : QR X b q n2 fi sz g) (hn : n ≤ 16384) : n ≤ cq n sz n2 ∧ cq n sz n2 ≤ 16384 := by
  obtain ⟨u, fq, hM, h1, h2, hQ⟩ := h
  have r1 := hQ.rg
  unfold cq
  split <;> omega
theorem NQ_e3 {r r2 : Int → Int} {k N : Int} (hk : 0 ≤ k ∧ k ≤ 1) (hI : RI r2 N) (hN : N < 8192) : ∀ x, 0 ≤ x → x < NQ r r2 k (357 + (1 - k)) → NQ r r2 (k + 1) (38359 + 8192 * (1 - k) + x) = NQ r r2 k (38359 + 8192 * (1 - k) + x) := by
  intro x x1 x2
  rcases (show k = 0 ∨ k = 1 by omega) with rfl | rfl
  · rw [NQ_out (by omega), NQ_out (by omega)]
  · rw [NQ_in (by omega)] at x2
    have q := hI.2.1
    have e : r2 (357 + (1 - 1)) = r2 357 := by congr 1
    rw [e] at x2
    rw [NQ_in (by omega), NQ_in (by omega)]
theorem NQ_e2 {r r2 : Int → Int} {k : Int} (hk : 0 ≤ k ∧ k ≤ 1) : NQ r r2 (k + 1) (357 + (1 - k)) = NQ r r2 k (357 + (1 - k)) := by
  rcases (show k = 0 ∨ k = 1 by omega) with rfl | rfl
  · rw [NQ_out (by omega), NQ_out (by omega)]
  · rw [NQ_in (by omega), NQ_in (by omega)]
theorem RI.q {r : Int → Int} {N w : Int} (h : RI r N) (hw : 0 ≤ w ∧ w ≤ 1) : 0 ≤ r (357 + w) ∧ r (357 + w) ≤ N := by
  rcases (show w = 0 ∨ w = 1 by omega) with rfl | rfl
  · exact h.2.1
  · exact h.2.2
set_option maxRecDepth 100000 in
set_option maxHeartbeats 4000000 in
theorem c_X2_copyFrom {X : Hp} {B st kap : Nat} {r : Int → Int} (hST : ST X B st kap r) {B2 st2 kap2 : Nat} {r2 : Int → Int} (hST2 : ST X B2 st2 kap2 r2) (hdis : B2 + 300 ≤ B ∨ B + 300 ≤ B2) {N : Int} (hG2 : GI r2) (hA2 : AS r2) (hI2 : RI r2 N) (hN : N < 8192) (h02 : r2 2 = 0 ∨ r2 2 = 1) : Cv yX2_copyFrom cX2_copyFrom 3 none 4 95 [.ref st, .ref st2] X (96772 - kap) (6 * (96772 - kap)) (fun rv X' k n => rv = none ∧ ∃ kap', ST X' B st kap' r2 ∧ FB B (B + 300) X X' ∧ kap ≤ kap' ∧ k ≤ kap' - kap ∧ n ≤ 6 * (kap' - kap)) := by
  refine Cv.of (by decide +kernel) [some (.ref st), some (.ref st2), none] rfl (Nat.le_of_ble_eq_true rfl) (fun φ hF hR => ?_)
  obtain ⟨g, ml, ws, va, qa, oe, dc, v, q, n, m_, z, fi, hS, hV, hQ, hk⟩ := hST
  obtain ⟨g2, ml2, ws2, va2, qa2, oe2, dc2, v2, q2, n2, m2, z2, fi2, hS2, hV2, hQ2, hk2⟩ := hST2
  have hk0 := kpo_top (w := 0) (u := 0) (a := 0) (b := 0) (ST.top hV hQ) (by omega) (by omega)
  obtain ⟨fv, fq, fo, fd, h1, ⟨d, s, e_, k_, nc, ec, gd, gs, ge, gk, hGP, hGE⟩, ⟨mz, mt, fz, ft, hMP, x1, x2⟩, ⟨wz, wt, wf, wg, hWP, x3⟩, h5, h6, h7, h8, h9, h10, h11⟩ := id hS
  obtain ⟨kv, kq, ko, kd, k1, ⟨d2, s2, e2, kk2, nc2, ec2, gd2, gs2, ge2, gk2, hGP2, hGE2⟩, ⟨mz2, mt2, fz2, ft2, hMP2, y1, y2⟩, ⟨wz2, wt2, wf2, wg2, hWP2, y3⟩, -, -, -, -, -, -, -⟩ := id hS2
  refine j_aload_n hF dX2_copyFrom_0 rfl (j_aload_n hF dX2_copyFrom_1 rfl (j_get hF k1 fl_RX2_107 dX2_copyFrom_2 rfl (j_put hF h1 fl_RX2_107 dX2_copyFrom_5 (by rcases h02 with q | q <;> rw [q] <;> rfl) (by rcases h02 with q | q <;> rw [q] <;> rfl) (Nat.le_of_ble_eq_true rfl) (j_nm (fun X1 eX1 => ?_)))))
  have hFs1 : FB B (B + 10) X X1 := FB.up eX1 h1 (by omega) (by omega)
  have h1 := ups eX1
  have k1 := hFs1 _ _ _ k1 (by omega)
  refine j_aload_n hF dX2_copyFrom_8 rfl (j_aload_n hF dX2_copyFrom_9 rfl (j_get hF k1 fl_RX2_101 dX2_copyFrom_10 rfl (j_put hF h1 fl_RX2_101 dX2_copyFrom_13 rfl rfl (Nat.le_of_ble_eq_true rfl) (j_nm (fun X2 eX2 => ?_)))))
  have hFs2 : FB B (B + 10) X1 X2 := FB.up eX2 h1 (by omega) (by omega)
  have h1 := ups eX2
  have k1 := hFs2 _ _ _ k1 (by omega)
  refine j_aload_n hF dX2_copyFrom_16 rfl (j_aload_n hF dX2_copyFrom_17 rfl (j_get hF k1 fl_RX2_104 dX2_copyFrom_18 rfl (j_put hF h1 fl_RX2_104 dX2_copyFrom_21 rfl rfl (Nat.le_of_ble_eq_true rfl) (j_nm (fun X3 eX3 => ?_)))))
  have hFs3 : FB B (B + 10) X2 X3 := FB.up eX3 h1 (by omega) (by omega)
  have h1 := ups eX3
  have k1 := hFs3 _ _ _ k1 (by omega)
  have hF0 := (hFs1.trans hFs2).trans hFs3
  have h5 := hF0 _ _ _ h5 (by omega)
  have h6 := hF0 _ _ _ h6 (by omega)
  have h7 := hF0 _ _ _ h7 (by omega)
  have h8 := hF0 _ _ _ h8 (by omega)
  have hGP := hGP.keep hF0 (by omega)
  have hMP := hMP.keep hF0 (by omega)
  have hWP := hWP.keep hF0 (by omega)
  have hGP2 := hGP2.keep hF0 (by omega)
  have hMP2 := hMP2.keep hF0 (by omega)
  have hWP2 := hWP2.keep hF0 (by omega)
  have hV := hV.keep hF0 (by omega)
  have hQ := hQ.keep hF0 (by omega)
  have hS2 := hS2.keep hF0 (by omega)
  have hV2 := hV2.keep hF0 (by omega)
  have hQ2 := hQ2.keep hF0 (by omega)
  refine j_aload_n hF dX2_copyFrom_24 rfl (j_get hF h1 fl_RX2_12 dX2_copyFrom_25 rfl (j_aload_n hF dX2_copyFrom_28 rfl (j_get hF k1 fl_RX2_12 dX2_copyFrom_29 rfl (j_callV hF (c_X0_copyFrom hGP hGP2 (by omega)) ms_X0_copyFrom mv_X0_copyFrom lk_RX2_111 dX2_copyFrom_32 hGP.1 rfl rfl rfl (by simp [Value.category]) ⟨⟨(Nat.le_of_ble_eq_true rfl), (Nat.le_of_ble_eq_true rfl)⟩, by omega, by omega⟩ (fun v4 X4 hp4 hE4 => ?_)))))
  obtain ⟨rfl, hNg⟩ := hp4
  have hFg : FB (B + 10) (B + 20) X3 X4 := hNg.2
  have h1 := hFg _ _ _ h1 (by omega)
  have k1 := hFg _ _ _ k1 (by omega)
  have h5 := hFg _ _ _ h5 (by omega)
  have h6 := hFg _ _ _ h6 (by omega)
  have h7 := hFg _ _ _ h7 (by omega)
  have h8 := hFg _ _ _ h8 (by omega)
  have hMP := hMP.keep hFg (by omega)
  have hWP := hWP.keep hFg (by omega)
  have hMP2 := hMP2.keep hFg (by omega)
  have hWP2 := hWP2.keep hFg (by omega)
  have hV := hV.keep hFg (by omega)
  have hQ := hQ.keep hFg (by omega)
  have hS2 := hS2.keep hFg (by omega)
  have hV2 := hV2.keep hFg (by omega)
  have hQ2 := hQ2.keep hFg (by omega)
  refine j_aload_n hF dX2_copyFrom_35 rfl (j_get hF h1 fl_RX2_21 dX2_copyFrom_36 rfl (j_aload_n hF dX2_copyFrom_39 rfl (j_get hF k1 fl_RX2_21 dX2_copyFrom_40 rfl (j_callV hF (c_X1_copyFrom hMP hMP2 (by omega)) ms_X1_copyFrom mv_X1_copyFrom lk_RX2_115 dX2_copyFrom_43 hMP.1 rfl rfl rfl (by simp [Value.category]) ⟨⟨(Nat.le_of_ble_eq_true rfl), (Nat.le_of_ble_eq_true rfl)⟩, by omega, by omega⟩ (fun v5 X5 hp5 hE5 => ?_)))))
  obtain ⟨rfl, hNm⟩ := hp5
  have hFm : FB (B + 20) (B + 30) X4 X5 := hNm.2
  have h1 := hFm _ _ _ h1 (by omega)
  have k1 := hFm _ _ _ k1 (by omega)
  have h5 := hFm _ _ _ h5 (by omega)
  have h6 := hFm _ _ _ h6 (by omega)
  have h7 := hFm _ _ _ h7 (by omega)
  have h8 := hFm _ _ _ h8 (by omega)
  have hWP := hWP.keep hFm (by omega)
  have hWP2 := hWP2.keep hFm (by omega)
  have hV := hV.keep hFm (by omega)
  have hQ := hQ.keep hFm (by omega)
  have hS2 := hS2.keep hFm (by omega)
  have hV2 := hV2.keep hFm (by omega)
  have hQ2 := hQ2.keep hFm (by omega)
  refine j_aload_n hF dX2_copyFrom_46 rfl (j_get hF h1 fl_RX2_28 dX2_copyFrom_47 rfl (j_aload_n hF dX2_copyFrom_50 rfl (j_get hF k1 fl_RX2_28 dX2_copyFrom_51 rfl (j_callV hF (c_X6_copyFrom hWP hWP2 (by omega)) ms_X6_copyFrom mv_X6_copyFrom lk_RX2_118 dX2_copyFrom_54 hWP.1 rfl rfl rfl (by simp [Value.category]) ⟨⟨(Nat.le_of_ble_eq_true rfl), (Nat.le_of_ble_eq_true rfl)⟩, by omega, by omega⟩ (fun v6 X6 hp6 hE6 => ?_)))))
  obtain ⟨rfl, hNw⟩ := hp6
  have hFw : FB (B + 30) (B + 40) X5 X6 := hNw.2
  have h1 := hFw _ _ _ h1 (by omega)
  have k1 := hFw _ _ _ k1 (by omega)
  have h5 := hFw _ _ _ h5 (by omega)
  have h6 := hFw _ _ _ h6 (by omega)
  have h7 := hFw _ _ _ h7 (by omega)
  have h8 := hFw _ _ _ h8 (by omega)
  have hV := hV.keep hFw (by omega)
  have hQ := hQ.keep hFw (by omega)
  have hS2 := hS2.keep hFw (by omega)
  have hV2 := hV2.keep hFw (by omega)
  have hQ2 := hQ2.keep hFw (by omega)
  refine j_iconst hF dX2_copyFrom_57 (j_istore_n hF dX2_copyFrom_58 (Nat.le_of_ble_eq_true rfl) rfl ?_)
  have hGR : GR X6 (B + 10) g r2 := ⟨_, _, _, _, _, _, _, _, _, _, ((hNg.1.keep hFm (by omega)).keep hFw (by omega)), hGE2.copy hG2 _ _ _ _⟩
  have hMR : MR X6 (B + 20) ml r2 := ⟨_, _, _, _, hNm.1.keep hFw (by omega), fun j j1 j2 => by rw [fcS j1 j2]; exact y1 j j1 j2, fun j j1 j2 => by rw [fcS j1 j2]; exact y2 j j1 j2⟩
  have hHR : HR X6 (B + 30) ws r2 := by
    refine ⟨_, _, _, _, hNw.1, fun w w1 w2 => ⟨by rw [fcS w1 (by omega)]; exact (y3 w w1 w2).1, fun x => ?_⟩⟩
    rw [← (y3 w w1 w2).2 x]
    have a1 := hA2 w w1 (by omega)
    apply cf_ext
    intro i i1 i2
    show (if fc wg2 wg 0 0 24 (12 * w + i) = x then (1 : Int) else 0) = (if wg2 (12 * w + i) = x then (1 : Int) else 0)
    rw [fcS (by omega) (by omega)]
  have hX : SX X6 B st g ml ws va qa oe dc v q r2 := ⟨fv, fq, fo, fd, h1, hGR, hMR, hHR, h5, h6, h7, h8, h9⟩
  have LL : ∀ (n : Nat) (Y : Hp) (n1 : Int → Nat) (z1 : Int → Int) (m1 : Int → Nat) (fi1 : Int → Int) (kc0 ks0 : Nat) (k : Int), (2 - k).toNat < n → 0 ≤ k ∧ k ≤ 2 → SX Y B st g ml ws va qa oe dc v q r2 → VV Y B v n1 z1 (NV r r2 k) → QQ Y B q m1 fi1 (NQ r r2 k) → SS Y B2 st2 g2 ml2 ws2 va2 qa2 oe2 dc2 v2 q2 r2 → VV Y B2 v2 n2 z2 r2 → QQ Y B2 q2 m2 fi2 r2 → FB B (B + 300) X Y → kap ≤ kpo n1 m1 → kc0 ≤ kpo n1 m1 - kap → ks0 ≤ 6 * (kpo n1 m1 - kap) → Jd φ Y kc0 ks0 59 [some (.ref st), some (.ref st2), some (vi k)] [] := by
    intro n
    induction n with
    | zero => intro Y n1 z1 m1 fi1 kc0 ks0 k hfu; exact absurd hfu (by omega)
    | succ n ih =>
      intro Y n1 z1 m1 fi1 kc0 ks0 k hfu hk_ hX hV hQ hS2 hV2 hQ2 hFF hc0 hc1 hc2
      have kt0 := ST.top2 hV hQ
      have kt1 := kpo_top (w := k) (u := 0) (a := 0) (b := 0) kt0 (by omega) (by omega)
      obtain ⟨fv, fq, fo, fd, h1, hGR, hMR, hHR, h5, h6, h7, h8, h9⟩ := id hX
      obtain ⟨kv, kq, ko, kd, k1, -, -, -, k5, k6, k7, k8, k9, k10, k11⟩ := id hS2
      have hcs : k < 2 → ∃ nv mq ol ol2, nv = mr (n1 k) (z2 k) ∧ n1 k ≤ nv ∧ mq = cq (m1 k) (r2 (357 + k)) (m2 k) ∧ m1 k ≤ mq ∧ kpo (fN n1 k nv) (fN m1 k mq) ≤ 96772 ∧ kpo (fN n1 k nv) m1 + n1 k = kpo n1 m1 + nv ∧ kpo (fN n1 k nv) (fN m1 k mq) + m1 k = kpo (fN n1 k nv) m1 + mq ∧ Y (v k) = some (B + 100 + 10 * k.toNat, ob 4 ol) ∧ Y (q k) = some (B + 200 + 10 * k.toNat, ob 3 ol2) := by
        intro hk2
        have a1 := (hV2 k hk_.1 (by omega)).sz
        have a2 := mr_top (hV k hk_.1 (by omega)).room (z := z2 k) (by omega)
        have a3 := cq_rg (hQ2 k hk_.1 (by omega)) (hQ k hk_.1 (by omega)).room
        obtain ⟨ol, ho⟩ := (hV k hk_.1 (by omega)).obj
        obtain ⟨ol2, ho2⟩ := (hQ k hk_.1 (by omega)).obj
        exact ⟨_, _, ol, ol2, rfl, (mr_ge _ _).1, rfl, a3.1, (kpo_top (w := k) (u := k) kt0 a2 a3.2).1, kpo_v (by omega), kpo_q (by omega), ho, ho2⟩
      refine j_iload_n hF dX2_copyFrom_59 rfl (j_iconst hF dX2_copyFrom_60 (j_icmp_ge hF 100 dX2_copyFrom_61 (by decide) (by omega) (fun c61 => ?_) (fun c61 => ?_)))
      ·
        refine j_aload_n hF dX2_copyFrom_100 rfl (j_get hF k1 fl_RX2_44 dX2_copyFrom_101 rfl (j_iconst hF dX2_copyFrom_104 (j_aload_n hF dX2_copyFrom_105 rfl (j_get hF h1 fl_RX2_44 dX2_copyFrom_106 rfl (j_iconst hF dX2_copyFrom_109 ?_)))))
        refine j_bipush hF dX2_copyFrom_110 (by decide) (j_copy hF lk_RX2_127 ac_nat ac_sta ac_ini k7 h7 dX2_copyFrom_112 (by omega) rfl (by decide) ⟨(Nat.le_of_ble_eq_true rfl), (Nat.le_of_ble_eq_true rfl)⟩ (j_nm (fun X1 eX1 => ?_)))
        have hFo : FB (B + 60) (B + 61) Y X1 := FB.up eX1 h7 (by omega) (by omega)
        have h7 := ups eX1
        have h1 := hFo _ _ _ h1 (by omega)
        have k1 := hFo _ _ _ k1 (by omega)
        have h5 := hFo _ _ _ h5 (by omega)
        have h6 := hFo _ _ _ h6 (by omega)
        have h8 := hFo _ _ _ h8 (by omega)
        have k8 := hFo _ _ _ k8 (by omega)
        have hGR := hGR.keep hFo (by omega)
        have hMR := hMR.keep hFo (by omega)
        have hHR := hHR.keep hFo (by omega)
        refine j_aload_n hF dX2_copyFrom_115 rfl (j_get hF k1 fl_RX2_48 dX2_copyFrom_116 rfl (j_iconst hF dX2_copyFrom_119 (j_aload_n hF dX2_copyFrom_120 rfl (j_get hF h1 fl_RX2_48 dX2_copyFrom_121 rfl (j_iconst hF dX2_copyFrom_124 ?_)))))
        refine j_aload_n hF dX2_copyFrom_125 rfl (j_get hF h1 fl_RX2_48 dX2_copyFrom_126 rfl (j_ilen hF (by decide) h8 dX2_copyFrom_129 (fun rl2 => ?_)))
        refine j_copy hF lk_RX2_127 ac_nat ac_sta ac_ini k8 h8 dX2_copyFrom_130 (by omega) rfl (by decide) ⟨(Nat.le_of_ble_eq_true rfl), (Nat.le_of_ble_eq_true rfl)⟩ (j_nm (fun X3 eX3 => ?_))
        have hFd : FB (B + 61) (B + 62) X1 X3 := FB.up eX3 h8 (by omega) (by omega)
        have h8 := ups eX3
        have h1 := hFd _ _ _ h1 (by omega)
        have h5 := hFd _ _ _ h5 (by omega)
        have h6 := hFd _ _ _ h6 (by omega)
        have h7 := hFd _ _ _ h7 (by omega)
        have hGR := hGR.keep hFd (by omega)
        have hMR := hMR.keep hFd (by omega)
        have hHR := hHR.keep hFd (by omega)
        refine j_vretv hF hR dX2_copyFrom_133 (by omega) (by omega) ?_
        obtain rfl : k = 2 := by omega
        have hV : VV Y B v n1 z1 r2 := fun w w1 w2 => (hV w w1 w2).cong (fun x x1 x2 => (NV_lt (by omega)).symm)
        have hQ : QQ Y B q m1 fi1 r2 := fun w w1 w2 => by
          have h := hQ w w1 w2
          have hq8 := hI2.q (w := w) ⟨w1, w2⟩
          rw [NQ_in (j := 357 + w) (by omega)] at h
          exact h.cong (fun i i1 i2 => (NQ_in (by omega)).symm)
        have hV := (hV.keep hFo (by omega)).keep hFd (by omega)
        have hQ := (hQ.keep hFo (by omega)).keep hFd (by omega)
        refine ⟨rfl, _, ⟨g, ml, ws, va, qa, oe, dc, v, q, _, _, _, _, ⟨fv, fq, _, _, h1, hGR, hMR, hHR, h5, h6, h7, h8, h9, fun j j1 j2 => ?_, k11.copy fd⟩, hV, hQ, rfl⟩, (hFF.trans (hFo.mono (by omega) (by omega))).trans (hFd.mono (by omega) (by omega)), by omega, by omega, by omega⟩
        rw [fcS j1 j2]; exact k10 j j1 j2
      ·
        obtain ⟨nv, mq, ol, ol2, hnv, hn1, hmq, hm1, hn2, hn3, hn4, hob1, hob2⟩ := hcs (by omega)
        clear hcs
        refine j_aload_n hF dX2_copyFrom_64 rfl (j_get hF h1 fl_RX2_34 dX2_copyFrom_65 rfl (j_iload_n hF dX2_copyFrom_68 rfl (j_aald hF (by decide) h5 dX2_copyFrom_69 (by omega) (h9 k hk_.1 (by omega)).1 (j_aload_n hF dX2_copyFrom_70 rfl (j_get hF k1 fl_RX2_34 dX2_copyFrom_71 rfl ?_)))))
        refine j_iload_n hF dX2_copyFrom_74 rfl (j_aald hF (by decide) k5 dX2_copyFrom_75 (by omega) (k9 k hk_.1 (by omega)).1 (j_callV hF (c_X4_copyFrom (hV k hk_.1 (by omega)) (hV2 k hk_.1 (by omega)) (by omega) (n' := nv) hnv) ms_X4_copyFrom mv_X4_copyFrom lk_RX2_121 dX2_copyFrom_76 hob1 rfl rfl rfl (by simp [Value.category]) ⟨⟨(Nat.le_of_ble_eq_true rfl), (Nat.le_of_ble_eq_true rfl)⟩, by omega, by omega⟩ (fun v1 X1 hp1 hE1 => ?_)))
        obtain ⟨rfl, hVn, hF1⟩ := hp1
        have h1 := hF1 _ _ _ h1 (by omega)
        have k1 := hF1 _ _ _ k1 (by omega)
        have h6 := hF1 _ _ _ h6 (by omega)
        have k6 := hF1 _ _ _ k6 (by omega)
        have hob2 := hF1 _ _ _ hob2 (by omega)
        have hX := hX.keep hF1 (by omega)
        have hV := hV.set (w := k) (by omega) hVn hF1 (r' := NV r r2 (k + 1)) (fun x x1 x2 => NV_lt (by omega)) (fun x x1 x2 => NV_o (by omega) ⟨x1, x2⟩)
        have hQ := hQ.keep hF1 (by omega)
        have hS2 := hS2.keep hF1 (by omega)
        have hV2 := hV2.keep hF1 (by omega)
        have hQ2 := hQ2.keep hF1 (by omega)
        refine j_aload_n hF dX2_copyFrom_79 rfl (j_get hF h1 fl_RX2_40 dX2_copyFrom_80 rfl (j_iload_n hF dX2_copyFrom_83 rfl (j_aald hF (by decide) h6 dX2_copyFrom_84 (by omega) (h9 k hk_.1 (by omega)).2 (j_aload_n hF dX2_copyFrom_85 rfl (j_get hF k1 fl_RX2_40 dX2_copyFrom_86 rfl ?_)))))
        refine j_iload_n hF dX2_copyFrom_89 rfl (j_aald hF (by decide) k6 dX2_copyFrom_90 (by omega) (k9 k hk_.1 (by omega)).2 (j_callV hF (c_X3_copyFrom (hQ k hk_.1 (by omega)) (hQ2 k hk_.1 (by omega)) (by omega) (n' := mq) hmq) ms_X3_copyFrom mv_X3_copyFrom lk_RX2_124 dX2_copyFrom_91 hob2 rfl rfl rfl (by simp [Value.category]) ⟨⟨(Nat.le_of_ble_eq_true rfl), (Nat.le_of_ble_eq_true rfl)⟩, by omega, by omega⟩ (fun v2 X2 hp2 hE2 => ?_)))
        obtain ⟨rfl, hQn, hF2⟩ := hp2
        have hX := hX.keep hF2 (by omega)
        have hV := hV.keep hF2 (by omega)
        have hq8 := hI2.q (w := k) (by omega)
        have hQ := hQ.set (w := k) (by omega) hQn hF2 (r' := NQ r r2 (k + 1)) (NQ_in (by omega)) (fun x x1 x2 => NQ_in (by omega)) (NQ_e2 (by omega)) (NQ_e3 (by omega) hI2 hN)
        have hS2 := hS2.keep hF2 (by omega)
        have hV2 := hV2.keep hF2 (by omega)
        have hQ2 := hQ2.keep hF2 (by omega)
        have hFF := (hFF.trans (hF1.mono (by omega) (by omega))).trans (hF2.mono (by omega) (by omega))
        refine j_iinc hF dX2_copyFrom_94 rfl (Nat.le_of_ble_eq_true rfl) rfl (j_goto hF 59 dX2_copyFrom_97 (by decide) ?_)
        refine ih _ (fN n1 k nv) _ (fN m1 k mq) _ _ _ (k + 1) ?_ ?_ hX hV hQ hS2 hV2 hQ2 hFF ?_ ?_ ?_ <;> omega
  refine LL 3 _ _ _ _ _ _ _ 0 (by omega) (by omega) hX (hV.row (fun i i1 => NV_ge (by omega))) (hQ.row (fun i i1 i2 => NQ_out (by omega))) hS2 hV2 hQ2 ((((hF0.mono (by omega) (by omega)).trans (hFg.mono (by omega) (by omega))).trans (hFm.mono (by omega) (by omega))).trans (hFw.mono (by omega) (by omega))) ?_ ?_ ?_ <;> omega

