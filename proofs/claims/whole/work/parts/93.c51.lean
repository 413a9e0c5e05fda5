set_option maxRecDepth 100000 in
set_option maxHeartbeats 4000000 in
theorem lwc_addNode {φ : Fi} {nm : String} (hF : Fx φ cL_law 4 RL (some .boolean) nm 11 450 600000 7302250) {b L : Nat} {xs : Nat → Int32} (hLS : LwS φ b L xs) (hL : L ≤ 3072) {X : Hp} {tr kap kc ks : Nat} {ad : Nat → Nat} {r pf er : Int → Int} {sv i c : Int} (hi : 0 ≤ i ∧ i + 6 ≤ L) (hc : i = 6 * c) (hP : PP X tr kap c (r, pf, sv, er)) (hM : MMx X ad (r, pf, sv, er)) (hI : PI (r, pf, sv, er) c) (hk0 : 384 ≤ kap) (hkc : kc ≤ 131 + (kap - 384)) (hks : ks ≤ 256593 + 6 * (kap - 384)) (K : ∀ (X2 : Hp) (σ2 : St) (kap2 kc2 ks2 : Nat), PP X2 tr kap2 (c + 1) σ2 → MMx X2 ad σ2 → PI σ2 (c + 1) → 384 ≤ kap2 → kc2 ≤ 131 + (kap2 - 384) → ks2 ≤ 256593 + 6 * (kap2 - 384) → Jd φ X2 kc2 ks2 944 [some (.ref b), some (.ref tr), some (.ref (ad 0)), some (vi i)] []) : Jd φ X kc ks 148 [some (.ref b), some (.ref tr), some (.ref (ad 0)), some (vi i)] [] := by
  have hi5 : c ≤ 511 ∧ 0 ≤ c := by omega
  obtain ⟨⟨⟨hGV, hNC, hTL⟩, ⟨ho, hVN, h02, hIN⟩, ⟨hm, hmt, hTm, hvm⟩, ⟨hA, hT, hAP⟩, ⟨hRI, hQI, hvd, hvq⟩, hC⟩, hEc, hsv, -⟩ := id hI
  dsimp only at hGV hNC ho hVN h02 hm hmt hvm hA hT hAP hRI hQI hvd hC hEc hsv
  have hG := hGV.1
  have hE : EI er := fun j a b => by have := hEc j a b; omega
  have hVC : VC r := by unfold VC; unfold VN at hVN; omega
  have hkl := hP.le
  obtain ⟨olp, hop⟩ := hP.obj
  refine j_aload_n hF dL_law_148 rfl (j_aload_n hF dL_law_149 rfl (j_iload_n hF dL_law_150 rfl (j_iconst hF dL_law_151 (j_iadd hF dL_law_152 (j_sld hF hLS hL dL_law_153 (by omega) (?_))))))
  refine j_aload_n hF dL_law_154 rfl (j_iload_n hF dL_law_155 rfl (j_iconst hF dL_law_156 (j_iadd hF dL_law_157 (j_sld hF hLS hL dL_law_158 (by omega) (j_callVv hF (c_X7_addNode hP hGV hE hsv hA hRI (by omega) h02 hC hm ho (sx_rg _ _) (sx_rg _ _)) ms_X7_addNode mv_X7_addNode lk_RL_13 dL_law_159 hop rfl rfl rfl (by simp [Value.category]) ⟨⟨(Nat.le_of_ble_eq_true rfl), (Nat.le_of_ble_eq_true rfl)⟩, by omega, by omega⟩ (fun v1 X1 k1 n1 hp1 hE1 => ?_))))))
  obtain ⟨rfl, kap1, hP1, hF1, hk1, hk2, hk3⟩ := hp1
  have hkl1 := hP1.le
  obtain ⟨sn, lw_, rc, wt, wg, ls_, ac, fi, as_, hh, hMM⟩ := hM.keep hF1
  dsimp only at hMM
  refine j_aload_n hF dL_law_162 rfl (j_aload_n hF dL_law_163 rfl (j_iload_n hF dL_law_164 rfl (j_iconst hF dL_law_165 (j_iadd hF dL_law_166 (j_sld hF hLS hL dL_law_167 (by omega) (?_))))))
  refine j_aload_n hF dL_law_168 rfl (j_iload_n hF dL_law_169 rfl (j_iconst hF dL_law_170 (j_iadd hF dL_law_171 (j_sld hF hLS hL dL_law_172 (by omega) (j_callV hF (c_X8_addNode hMM hG hE hRI (by omega) hm hsv (sx_rg _ _) (sx_rg _ _)) ms_X8_addNode mv_X8_addNode lk_RL_17 dL_law_173 hMM.1 rfl rfl rfl (by simp [Value.category]) ⟨⟨(Nat.le_of_ble_eq_true rfl), (Nat.le_of_ble_eq_true rfl)⟩, by omega, by omega⟩ (fun v2 X2 hp2 hE2 => ?_))))))
  obtain ⟨rfl, hMX⟩ := hp2
  obtain ⟨hM2, hFR⟩ := hMX.x
  refine j_same hF 944 dL_law_176 (by decide) ?_
  exact K _ _ kap1 _ _ (hP1.kr hFR) hM2 (pi_addNode hI (by omega)) (by omega) (by omega) (by omega)

set_option maxRecDepth 100000 in
set_option maxHeartbeats 4000000 in
theorem lwc_addEdge {φ : Fi} {nm : String} (hF : Fx φ cL_law 4 RL (some .boolean) nm 11 450 600000 7302250) {b L : Nat} {xs : Nat → Int32} (hLS : LwS φ b L xs) (hL : L ≤ 3072) {X : Hp} {tr kap kc ks : Nat} {ad : Nat → Nat} {r pf er : Int → Int} {sv i c : Int} (hi : 0 ≤ i ∧ i + 6 ≤ L) (hc : i = 6 * c) (hP : PP X tr kap c (r, pf, sv, er)) (hM : MMx X ad (r, pf, sv, er)) (hI : PI (r, pf, sv, er) c) (hk0 : 384 ≤ kap) (hkc : kc ≤ 131 + (kap - 384)) (hks : ks ≤ 256593 + 6 * (kap - 384)) (K : ∀ (X2 : Hp) (σ2 : St) (kap2 kc2 ks2 : Nat), PP X2 tr kap2 (c + 1) σ2 → MMx X2 ad σ2 → PI σ2 (c + 1) → 384 ≤ kap2 → kc2 ≤ 131 + (kap2 - 384) → ks2 ≤ 256593 + 6 * (kap2 - 384) → Jd φ X2 kc2 ks2 944 [some (.ref b), some (.ref tr), some (.ref (ad 0)), some (vi i)] []) : Jd φ X kc ks 181 [some (.ref b), some (.ref tr), some (.ref (ad 0)), some (vi i)] [] := by
  have hi5 : c ≤ 511 ∧ 0 ≤ c := by omega
  obtain ⟨⟨⟨hGV, hNC, hTL⟩, ⟨ho, hVN, h02, hIN⟩, ⟨hm, hmt, hTm, hvm⟩, ⟨hA, hT, hAP⟩, ⟨hRI, hQI, hvd, hvq⟩, hC⟩, hEc, hsv, -⟩ := id hI
  dsimp only at hGV hNC ho hVN h02 hm hmt hvm hA hT hAP hRI hQI hvd hC hEc hsv
  have hG := hGV.1
  have hE : EI er := fun j a b => by have := hEc j a b; omega
  have hVC : VC r := by unfold VC; unfold VN at hVN; omega
  have hkl := hP.le
  obtain ⟨olp, hop⟩ := hP.obj
  refine j_aload_n hF dL_law_181 rfl (j_aload_n hF dL_law_182 rfl (j_iload_n hF dL_law_183 rfl (j_iconst hF dL_law_184 (j_iadd hF dL_law_185 (j_sld hF hLS hL dL_law_186 (by omega) (?_))))))
  refine j_aload_n hF dL_law_187 rfl (j_iload_n hF dL_law_188 rfl (j_iconst hF dL_law_189 (j_iadd hF dL_law_190 (j_sld hF hLS hL dL_law_191 (by omega) (j_aload_n hF dL_law_192 rfl (?_))))))
  refine j_iload_n hF dL_law_193 rfl (j_iconst hF dL_law_194 (j_iadd hF dL_law_195 (j_sld hF hLS hL dL_law_196 (by omega) (j_callVv hF (c_X7_addEdge hP hGV hE hsv hA hRI (by omega) h02 hC hm ho hNC (sx_rg _ _) (sx_rg _ _) (sx_rg _ _)) ms_X7_addEdge mv_X7_addEdge lk_RL_18 dL_law_197 hop rfl rfl rfl (by simp [Value.category]) ⟨⟨(Nat.le_of_ble_eq_true rfl), (Nat.le_of_ble_eq_true rfl)⟩, by omega, by omega⟩ (fun v1 X1 k1 n1 hp1 hE1 => ?_)))))
  obtain ⟨rfl, kap1, hP1, hF1, hk1, hk2, hk3⟩ := hp1
  have hkl1 := hP1.le
  obtain ⟨sn, lw_, rc, wt, wg, ls_, ac, fi, as_, hh, hMM⟩ := hM.keep hF1
  dsimp only at hMM
  refine j_aload_n hF dL_law_200 rfl (j_aload_n hF dL_law_201 rfl (j_iload_n hF dL_law_202 rfl (j_iconst hF dL_law_203 (j_iadd hF dL_law_204 (j_sld hF hLS hL dL_law_205 (by omega) (?_))))))
  refine j_aload_n hF dL_law_206 rfl (j_iload_n hF dL_law_207 rfl (j_iconst hF dL_law_208 (j_iadd hF dL_law_209 (j_sld hF hLS hL dL_law_210 (by omega) (j_aload_n hF dL_law_211 rfl (?_))))))
  refine j_iload_n hF dL_law_212 rfl (j_iconst hF dL_law_213 (j_iadd hF dL_law_214 (j_sld hF hLS hL dL_law_215 (by omega) (j_callV hF (c_X8_addEdge hMM hG hE hRI (by omega) hm hsv (sx_rg _ _) (sx_rg _ _) (sx_rg _ _)) ms_X8_addEdge mv_X8_addEdge lk_RL_22 dL_law_216 hMM.1 rfl rfl rfl (by simp [Value.category]) ⟨⟨(Nat.le_of_ble_eq_true rfl), (Nat.le_of_ble_eq_true rfl)⟩, by omega, by omega⟩ (fun v2 X2 hp2 hE2 => ?_)))))
  obtain ⟨rfl, hMX⟩ := hp2
  obtain ⟨hM2, hFR⟩ := hMX.x
  refine j_same hF 944 dL_law_219 (by decide) ?_
  exact K _ _ kap1 _ _ (hP1.kr hFR) hM2 (pi_addEdge hI (by omega)) (by omega) (by omega) (by omega)

set_option maxRecDepth 100000 in
set_option maxHeartbeats 4000000 in
theorem lwc_kind {φ : Fi} {nm : String} (hF : Fx φ cL_law 4 RL (some .boolean) nm 11 450 600000 7302250) {b L : Nat} {xs : Nat → Int32} (hLS : LwS φ b L xs) (hL : L ≤ 3072) {X : Hp} {tr kap kc ks : Nat} {ad : Nat → Nat} {r pf er : Int → Int} {sv i c : Int} (hi : 0 ≤ i ∧ i + 6 ≤ L) (hc : i = 6 * c) (hP : PP X tr kap c (r, pf, sv, er)) (hM : MMx X ad (r, pf, sv, er)) (hI : PI (r, pf, sv, er) c) (hk0 : 384 ≤ kap) (hkc : kc ≤ 131 + (kap - 384)) (hks : ks ≤ 256593 + 6 * (kap - 384)) (K : ∀ (X2 : Hp) (σ2 : St) (kap2 kc2 ks2 : Nat), PP X2 tr kap2 (c + 1) σ2 → MMx X2 ad σ2 → PI σ2 (c + 1) → 384 ≤ kap2 → kc2 ≤ 131 + (kap2 - 384) → ks2 ≤ 256593 + 6 * (kap2 - 384) → Jd φ X2 kc2 ks2 944 [some (.ref b), some (.ref tr), some (.ref (ad 0)), some (vi i)] []) : Jd φ X kc ks 224 [some (.ref b), some (.ref tr), some (.ref (ad 0)), some (vi i)] [] := by
  have hi5 : c ≤ 511 ∧ 0 ≤ c := by omega
  obtain ⟨⟨⟨hGV, hNC, hTL⟩, ⟨ho, hVN, h02, hIN⟩, ⟨hm, hmt, hTm, hvm⟩, ⟨hA, hT, hAP⟩, ⟨hRI, hQI, hvd, hvq⟩, hC⟩, hEc, hsv, -⟩ := id hI
  dsimp only at hGV hNC ho hVN h02 hm hmt hvm hA hT hAP hRI hQI hvd hC hEc hsv
  have hG := hGV.1
  have hE : EI er := fun j a b => by have := hEc j a b; omega
  have hVC : VC r := by unfold VC; unfold VN at hVN; omega
  have hkl := hP.le
  obtain ⟨olp, hop⟩ := hP.obj
  refine j_aload_n hF dL_law_224 rfl (j_aload_n hF dL_law_225 rfl (j_iload_n hF dL_law_226 rfl (j_iconst hF dL_law_227 (j_iadd hF dL_law_228 (j_sld hF hLS hL dL_law_229 (by omega) (?_))))))
  refine j_callVv hF (c_X7_kind hP hGV hE (sx_rg _ _)) ms_X7_kind mv_X7_kind lk_RL_23 dL_law_230 hop rfl rfl rfl (by simp [Value.category]) ⟨⟨(Nat.le_of_ble_eq_true rfl), (Nat.le_of_ble_eq_true rfl)⟩, by omega, by omega⟩ (fun v1 X1 k1 n1 hp1 hE1 => ?_)
  obtain ⟨rfl, kap1, hP1, hF1, hk1, hk2, hk3⟩ := hp1
  have hkl1 := hP1.le
  obtain ⟨sn, lw_, rc, wt, wg, ls_, ac, fi, as_, hh, hMM⟩ := hM.keep hF1
  dsimp only at hMM
  refine j_aload_n hF dL_law_233 rfl (j_aload_n hF dL_law_234 rfl (j_iload_n hF dL_law_235 rfl (j_iconst hF dL_law_236 (j_iadd hF dL_law_237 (j_sld hF hLS hL dL_law_238 (by omega) (?_))))))
  refine j_callV hF (c_X8_kind hMM hG hE (sx_rg _ _)) ms_X8_kind mv_X8_kind lk_RL_27 dL_law_239 hMM.1 rfl rfl rfl (by simp [Value.category]) ⟨⟨(Nat.le_of_ble_eq_true rfl), (Nat.le_of_ble_eq_true rfl)⟩, by omega, by omega⟩ (fun v2 X2 hp2 hE2 => ?_)
  obtain ⟨rfl, hMX⟩ := hp2
  obtain ⟨hM2, hFR⟩ := hMX.x
  refine j_same hF 944 dL_law_242 (by decide) ?_
  exact K _ _ kap1 _ _ (hP1.kr hFR) hM2 (by unfold sp_kind; exact pi_rd hI) (by omega) (by omega) (by omega)

set_option maxRecDepth 100000 in
set_option maxHeartbeats 4000000 in
theorem lwc_move {φ : Fi} {nm : String} (hF : Fx φ cL_law 4 RL (some .boolean) nm 11 450 600000 7302250) {b L : Nat} {xs : Nat → Int32} (hLS : LwS φ b L xs) (hL : L ≤ 3072) {X : Hp} {tr kap kc ks : Nat} {ad : Nat → Nat} {r pf er : Int → Int} {sv i c : Int} (hi : 0 ≤ i ∧ i + 6 ≤ L) (hc : i = 6 * c) (hP : PP X tr kap c (r, pf, sv, er)) (hM : MMx X ad (r, pf, sv, er)) (hI : PI (r, pf, sv, er) c) (hk0 : 384 ≤ kap) (hkc : kc ≤ 131 + (kap - 384)) (hks : ks ≤ 256593 + 6 * (kap - 384)) (K : ∀ (X2 : Hp) (σ2 : St) (kap2 kc2 ks2 : Nat), PP X2 tr kap2 (c + 1) σ2 → MMx X2 ad σ2 → PI σ2 (c + 1) → 384 ≤ kap2 → kc2 ≤ 131 + (kap2 - 384) → ks2 ≤ 256593 + 6 * (kap2 - 384) → Jd φ X2 kc2 ks2 944 [some (.ref b), some (.ref tr), some (.ref (ad 0)), some (vi i)] []) : Jd φ X kc ks 247 [some (.ref b), some (.ref tr), some (.ref (ad 0)), some (vi i)] [] := by
  have hi5 : c ≤ 511 ∧ 0 ≤ c := by omega
  obtain ⟨⟨⟨hGV, hNC, hTL⟩, ⟨ho, hVN, h02, hIN⟩, ⟨hm, hmt, hTm, hvm⟩, ⟨hA, hT, hAP⟩, ⟨hRI, hQI, hvd, hvq⟩, hC⟩, hEc, hsv, -⟩ := id hI
  dsimp only at hGV hNC ho hVN h02 hm hmt hvm hA hT hAP hRI hQI hvd hC hEc hsv
  have hG := hGV.1
  have hE : EI er := fun j a b => by have := hEc j a b; omega
  have hVC : VC r := by unfold VC; unfold VN at hVN; omega
  have hkl := hP.le
  obtain ⟨olp, hop⟩ := hP.obj
  refine j_aload_n hF dL_law_247 rfl (j_aload_n hF dL_law_248 rfl (j_iload_n hF dL_law_249 rfl (j_iconst hF dL_law_250 (j_iadd hF dL_law_251 (j_sld hF hLS hL dL_law_252 (by omega) (?_))))))
  refine j_aload_n hF dL_law_253 rfl (j_iload_n hF dL_law_254 rfl (j_iconst hF dL_law_255 (j_iadd hF dL_law_256 (j_sld hF hLS hL dL_law_257 (by omega) (j_callVv hF (c_X7_move hP hGV hE (sx_rg _ _) (sx_rg _ _)) ms_X7_move mv_X7_move lk_RL_28 dL_law_258 hop rfl rfl rfl (by simp [Value.category]) ⟨⟨(Nat.le_of_ble_eq_true rfl), (Nat.le_of_ble_eq_true rfl)⟩, by omega, by omega⟩ (fun v1 X1 k1 n1 hp1 hE1 => ?_))))))
  obtain ⟨rfl, kap1, hP1, hF1, hk1, hk2, hk3⟩ := hp1
  have hkl1 := hP1.le
  obtain ⟨sn, lw_, rc, wt, wg, ls_, ac, fi, as_, hh, hMM⟩ := hM.keep hF1
  dsimp only at hMM
  refine j_aload_n hF dL_law_261 rfl (j_aload_n hF dL_law_262 rfl (j_iload_n hF dL_law_263 rfl (j_iconst hF dL_law_264 (j_iadd hF dL_law_265 (j_sld hF hLS hL dL_law_266 (by omega) (?_))))))
  refine j_aload_n hF dL_law_267 rfl (j_iload_n hF dL_law_268 rfl (j_iconst hF dL_law_269 (j_iadd hF dL_law_270 (j_sld hF hLS hL dL_law_271 (by omega) (j_callV hF (c_X8_move hMM hG hE (sx_rg _ _) (sx_rg _ _)) ms_X8_move mv_X8_move lk_RL_31 dL_law_272 hMM.1 rfl rfl rfl (by simp [Value.category]) ⟨⟨(Nat.le_of_ble_eq_true rfl), (Nat.le_of_ble_eq_true rfl)⟩, by omega, by omega⟩ (fun v2 X2 hp2 hE2 => ?_))))))
  obtain ⟨rfl, hMX⟩ := hp2
  obtain ⟨hM2, hFR⟩ := hMX.x
  refine j_same hF 944 dL_law_275 (by decide) ?_
  exact K _ _ kap1 _ _ (hP1.kr hFR) hM2 (by unfold sp_move; exact pi_rd hI) (by omega) (by omega) (by omega)

set_option maxRecDepth 100000 in
set_option maxHeartbeats 4000000 in
theorem lwc_couldResultIn {φ : Fi} {nm : String} (hF : Fx φ cL_law 4 RL (some .boolean) nm 11 450 600000 7302250) {b L : Nat} {xs : Nat → Int32} (hLS : LwS φ b L xs) (hL : L ≤ 3072) {X : Hp} {tr kap kc ks : Nat} {ad : Nat → Nat} {r pf er : Int → Int} {sv i c : Int} (hi : 0 ≤ i ∧ i + 6 ≤ L) (hc : i = 6 * c) (hP : PP X tr kap c (r, pf, sv, er)) (hM : MMx X ad (r, pf, sv, er)) (hI : PI (r, pf, sv, er) c) (hk0 : 384 ≤ kap) (hkc : kc ≤ 131 + (kap - 384)) (hks : ks ≤ 256593 + 6 * (kap - 384)) (K : ∀ (X2 : Hp) (σ2 : St) (kap2 kc2 ks2 : Nat), PP X2 tr kap2 (c + 1) σ2 → MMx X2 ad σ2 → PI σ2 (c + 1) → 384 ≤ kap2 → kc2 ≤ 131 + (kap2 - 384) → ks2 ≤ 256593 + 6 * (kap2 - 384) → Jd φ X2 kc2 ks2 944 [some (.ref b), some (.ref tr), some (.ref (ad 0)), some (vi i)] []) : Jd φ X kc ks 280 [some (.ref b), some (.ref tr), some (.ref (ad 0)), some (vi i)] [] := by
  have hi5 : c ≤ 511 ∧ 0 ≤ c := by omega
  obtain ⟨⟨⟨hGV, hNC, hTL⟩, ⟨ho, hVN, h02, hIN⟩, ⟨hm, hmt, hTm, hvm⟩, ⟨hA, hT, hAP⟩, ⟨hRI, hQI, hvd, hvq⟩, hC⟩, hEc, hsv, -⟩ := id hI
  dsimp only at hGV hNC ho hVN h02 hm hmt hvm hA hT hAP hRI hQI hvd hC hEc hsv
  have hG := hGV.1
  have hE : EI er := fun j a b => by have := hEc j a b; omega
  have hVC : VC r := by unfold VC; unfold VN at hVN; omega
  have hkl := hP.le
  obtain ⟨olp, hop⟩ := hP.obj
  refine j_aload_n hF dL_law_280 rfl (j_aload_n hF dL_law_281 rfl (j_iload_n hF dL_law_282 rfl (j_iconst hF dL_law_283 (j_iadd hF dL_law_284 (j_sld hF hLS hL dL_law_285 (by omega) (?_))))))
  refine j_aload_n hF dL_law_286 rfl (j_iload_n hF dL_law_287 rfl (j_iconst hF dL_law_288 (j_iadd hF dL_law_289 (j_sld hF hLS hL dL_law_290 (by omega) (j_aload_n hF dL_law_291 rfl (?_))))))
  refine j_iload_n hF dL_law_292 rfl (j_iconst hF dL_law_293 (j_iadd hF dL_law_294 (j_sld hF hLS hL dL_law_295 (by omega) (j_aload_n hF dL_law_296 rfl (j_iload_n hF dL_law_297 rfl (?_))))))
  refine j_iconst hF dL_law_298 (j_iadd hF dL_law_299 (j_sld hF hLS hL dL_law_300 (by omega) (j_callVv hF (c_X7_couldResultIn hP hGV hE (by omega) (sx_rg _ _) (sx_rg _ _) (sx_rg _ _) (sx_rg _ _)) ms_X7_couldResultIn mv_X7_couldResultIn lk_RL_32 dL_law_301 hop rfl rfl rfl (by simp [Value.category]) ⟨⟨(Nat.le_of_ble_eq_true rfl), (Nat.le_of_ble_eq_true rfl)⟩, by omega, by omega⟩ (fun v1 X1 k1 n1 hp1 hE1 => ?_))))
  obtain ⟨rfl, kap1, hP1, hF1, hk1, hk2, hk3⟩ := hp1
  have hkl1 := hP1.le
  obtain ⟨sn, lw_, rc, wt, wg, ls_, ac, fi, as_, hh, hMM⟩ := hM.keep hF1
  dsimp only at hMM
  refine j_aload_n hF dL_law_304 rfl (j_aload_n hF dL_law_305 rfl (j_iload_n hF dL_law_306 rfl (j_iconst hF dL_law_307 (j_iadd hF dL_law_308 (j_sld hF hLS hL dL_law_309 (by omega) (?_))))))
  refine j_aload_n hF dL_law_310 rfl (j_iload_n hF dL_law_311 rfl (j_iconst hF dL_law_312 (j_iadd hF dL_law_313 (j_sld hF hLS hL dL_law_314 (by omega) (j_aload_n hF dL_law_315 rfl (?_))))))
  refine j_iload_n hF dL_law_316 rfl (j_iconst hF dL_law_317 (j_iadd hF dL_law_318 (j_sld hF hLS hL dL_law_319 (by omega) (j_aload_n hF dL_law_320 rfl (j_iload_n hF dL_law_321 rfl (?_))))))
  refine j_iconst hF dL_law_322 (j_iadd hF dL_law_323 (j_sld hF hLS hL dL_law_324 (by omega) (j_callV hF (c_X8_couldResultIn hMM hG hE (sx_rg _ _) (sx_rg _ _) (sx_rg _ _) (sx_rg _ _)) ms_X8_couldResultIn mv_X8_couldResultIn lk_RL_36 dL_law_325 hMM.1 rfl rfl rfl (by simp [Value.category]) ⟨⟨(Nat.le_of_ble_eq_true rfl), (Nat.le_of_ble_eq_true rfl)⟩, by omega, by omega⟩ (fun v2 X2 hp2 hE2 => ?_))))
  obtain ⟨rfl, hMX⟩ := hp2
  obtain ⟨hM2, hFR⟩ := hMX.x
  refine j_same hF 944 dL_law_328 (by decide) ?_
  exact K _ _ kap1 _ _ (hP1.kr hFR) hM2 (by unfold sp_couldResultIn; exact pi_rd hI) (by omega) (by omega) (by omega)

set_option maxRecDepth 100000 in
set_option maxHeartbeats 4000000 in
theorem lwc_earliest {φ : Fi} {nm : String} (hF : Fx φ cL_law 4 RL (some .boolean) nm 11 450 600000 7302250) {b L : Nat} {xs : Nat → Int32} (hLS : LwS φ b L xs) (hL : L ≤ 3072) {X : Hp} {tr kap kc ks : Nat} {ad : Nat → Nat} {r pf er : Int → Int} {sv i c : Int} (hi : 0 ≤ i ∧ i + 6 ≤ L) (hc : i = 6 * c) (hP : PP X tr kap c (r, pf, sv, er)) (hM : MMx X ad (r, pf, sv, er)) (hI : PI (r, pf, sv, er) c) (hk0 : 384 ≤ kap) (hkc : kc ≤ 131 + (kap - 384)) (hks : ks ≤ 256593 + 6 * (kap - 384)) (K : ∀ (X2 : Hp) (σ2 : St) (kap2 kc2 ks2 : Nat), PP X2 tr kap2 (c + 1) σ2 → MMx X2 ad σ2 → PI σ2 (c + 1) → 384 ≤ kap2 → kc2 ≤ 131 + (kap2 - 384) → ks2 ≤ 256593 + 6 * (kap2 - 384) → Jd φ X2 kc2 ks2 944 [some (.ref b), some (.ref tr), some (.ref (ad 0)), some (vi i)] []) : Jd φ X kc ks 333 [some (.ref b), some (.ref tr), some (.ref (ad 0)), some (vi i)] [] := by
  have hi5 : c ≤ 511 ∧ 0 ≤ c := by omega
  obtain ⟨⟨⟨hGV, hNC, hTL⟩, ⟨ho, hVN, h02, hIN⟩, ⟨hm, hmt, hTm, hvm⟩, ⟨hA, hT, hAP⟩, ⟨hRI, hQI, hvd, hvq⟩, hC⟩, hEc, hsv, -⟩ := id hI
  dsimp only at hGV hNC ho hVN h02 hm hmt hvm hA hT hAP hRI hQI hvd hC hEc hsv
  have hG := hGV.1
  have hE : EI er := fun j a b => by have := hEc j a b; omega
  have hVC : VC r := by unfold VC; unfold VN at hVN; omega
  have hkl := hP.le
  obtain ⟨olp, hop⟩ := hP.obj
  refine j_aload_n hF dL_law_333 rfl (j_aload_n hF dL_law_334 rfl (j_iload_n hF dL_law_335 rfl (j_iconst hF dL_law_336 (j_iadd hF dL_law_337 (j_sld hF hLS hL dL_law_338 (by omega) (?_))))))
  refine j_aload_n hF dL_law_339 rfl (j_iload_n hF dL_law_340 rfl (j_iconst hF dL_law_341 (j_iadd hF dL_law_342 (j_sld hF hLS hL dL_law_343 (by omega) (j_aload_n hF dL_law_344 rfl (?_))))))
  refine j_iload_n hF dL_law_345 rfl (j_iconst hF dL_law_346 (j_iadd hF dL_law_347 (j_sld hF hLS hL dL_law_348 (by omega) (j_callVv hF (c_X7_earliest hP hGV hE (by omega) (sx_rg _ _) (sx_rg _ _) (sx_rg _ _)) ms_X7_earliest mv_X7_earliest lk_RL_37 dL_law_349 hop rfl rfl rfl (by simp [Value.category]) ⟨⟨(Nat.le_of_ble_eq_true rfl), (Nat.le_of_ble_eq_true rfl)⟩, by omega, by omega⟩ (fun v1 X1 k1 n1 hp1 hE1 => ?_)))))
  obtain ⟨rfl, kap1, hP1, hF1, hk1, hk2, hk3⟩ := hp1
  have hkl1 := hP1.le
  obtain ⟨sn, lw_, rc, wt, wg, ls_, ac, fi, as_, hh, hMM⟩ := hM.keep hF1
  dsimp only at hMM
  refine j_aload_n hF dL_law_352 rfl (j_aload_n hF dL_law_353 rfl (j_iload_n hF dL_law_354 rfl (j_iconst hF dL_law_355 (j_iadd hF dL_law_356 (j_sld hF hLS hL dL_law_357 (by omega) (?_))))))
  refine j_aload_n hF dL_law_358 rfl (j_iload_n hF dL_law_359 rfl (j_iconst hF dL_law_360 (j_iadd hF dL_law_361 (j_sld hF hLS hL dL_law_362 (by omega) (j_aload_n hF dL_law_363 rfl (?_))))))
  refine j_iload_n hF dL_law_364 rfl (j_iconst hF dL_law_365 (j_iadd hF dL_law_366 (j_sld hF hLS hL dL_law_367 (by omega) (j_callV hF (c_X8_earliest hMM hG hE (sx_rg _ _) (sx_rg _ _) (sx_rg _ _)) ms_X8_earliest mv_X8_earliest lk_RL_40 dL_law_368 hMM.1 rfl rfl rfl (by simp [Value.category]) ⟨⟨(Nat.le_of_ble_eq_true rfl), (Nat.le_of_ble_eq_true rfl)⟩, by omega, by omega⟩ (fun v2 X2 hp2 hE2 => ?_)))))
  obtain ⟨rfl, hMX⟩ := hp2
  obtain ⟨hM2, hFR⟩ := hMX.x
  refine j_same hF 944 dL_law_371 (by decide) ?_
  exact K _ _ kap1 _ _ (hP1.kr hFR) hM2 (by unfold sp_earliest; exact pi_rd hI) (by omega) (by omega) (by omega)

set_option maxRecDepth 100000 in
set_option maxHeartbeats 4000000 in
theorem lwc_send {φ : Fi} {nm : String} (hF : Fx φ cL_law 4 RL (some .boolean) nm 11 450 600000 7302250) {b L : Nat} {xs : Nat → Int32} (hLS : LwS φ b L xs) (hL : L ≤ 3072) {X : Hp} {tr kap kc ks : Nat} {ad : Nat → Nat} {r pf er : Int → Int} {sv i c : Int} (hi : 0 ≤ i ∧ i + 6 ≤ L) (hc : i = 6 * c) (hP : PP X tr kap c (r, pf, sv, er)) (hM : MMx X ad (r, pf, sv, er)) (hI : PI (r, pf, sv, er) c) (hk0 : 384 ≤ kap) (hkc : kc ≤ 131 + (kap - 384)) (hks : ks ≤ 256593 + 6 * (kap - 384)) (K : ∀ (X2 : Hp) (σ2 : St) (kap2 kc2 ks2 : Nat), PP X2 tr kap2 (c + 1) σ2 → MMx X2 ad σ2 → PI σ2 (c + 1) → 384 ≤ kap2 → kc2 ≤ 131 + (kap2 - 384) → ks2 ≤ 256593 + 6 * (kap2 - 384) → Jd φ X2 kc2 ks2 944 [some (.ref b), some (.ref tr), some (.ref (ad 0)), some (vi i)] []) : Jd φ X kc ks 376 [some (.ref b), some (.ref tr), some (.ref (ad 0)), some (vi i)] [] := by
  have hi5 : c ≤ 511 ∧ 0 ≤ c := by omega
  obtain ⟨⟨⟨hGV, hNC, hTL⟩, ⟨ho, hVN, h02, hIN⟩, ⟨hm, hmt, hTm, hvm⟩, ⟨hA, hT, hAP⟩, ⟨hRI, hQI, hvd, hvq⟩, hC⟩, hEc, hsv, -⟩ := id hI
  dsimp only at hGV hNC ho hVN h02 hm hmt hvm hA hT hAP hRI hQI hvd hC hEc hsv
  have hG := hGV.1
  have hE : EI er := fun j a b => by have := hEc j a b; omega
  have hVC : VC r := by unfold VC; unfold VN at hVN; omega
  have hkl := hP.le
  obtain ⟨olp, hop⟩ := hP.obj
  refine j_aload_n hF dL_law_376 rfl (j_aload_n hF dL_law_377 rfl (j_iload_n hF dL_law_378 rfl (j_iconst hF dL_law_379 (j_iadd hF dL_law_380 (j_sld hF hLS hL dL_law_381 (by omega) (?_))))))
  refine j_aload_n hF dL_law_382 rfl (j_iload_n hF dL_law_383 rfl (j_iconst hF dL_law_384 (j_iadd hF dL_law_385 (j_sld hF hLS hL dL_law_386 (by omega) (j_callVv hF (c_X7_send hP hGV hE hsv hA hRI (by omega) h02 hC hm ho (sx_rg _ _) (sx_rg _ _)) ms_X7_send mv_X7_send lk_RL_41 dL_law_387 hop rfl rfl rfl (by simp [Value.category]) ⟨⟨(Nat.le_of_ble_eq_true rfl), (Nat.le_of_ble_eq_true rfl)⟩, by omega, by omega⟩ (fun v1 X1 k1 n1 hp1 hE1 => ?_))))))
  obtain ⟨rfl, kap1, hP1, hF1, hk1, hk2, hk3⟩ := hp1
  have hkl1 := hP1.le
  obtain ⟨sn, lw_, rc, wt, wg, ls_, ac, fi, as_, hh, hMM⟩ := hM.keep hF1
  dsimp only at hMM
  refine j_aload_n hF dL_law_390 rfl (j_aload_n hF dL_law_391 rfl (j_iload_n hF dL_law_392 rfl (j_iconst hF dL_law_393 (j_iadd hF dL_law_394 (j_sld hF hLS hL dL_law_395 (by omega) (?_))))))
  refine j_aload_n hF dL_law_396 rfl (j_iload_n hF dL_law_397 rfl (j_iconst hF dL_law_398 (j_iadd hF dL_law_399 (j_sld hF hLS hL dL_law_400 (by omega) (j_callV hF (c_X8_send hMM hG hE hRI (by omega) hm hsv ho (sx_rg _ _) (sx_rg _ _)) ms_X8_send mv_X8_send lk_RL_44 dL_law_401 hMM.1 rfl rfl rfl (by simp [Value.category]) ⟨⟨(Nat.le_of_ble_eq_true rfl), (Nat.le_of_ble_eq_true rfl)⟩, by omega, by omega⟩ (fun v2 X2 hp2 hE2 => ?_))))))
  obtain ⟨rfl, hMX⟩ := hp2
  obtain ⟨hM2, hFR⟩ := hMX.x
  refine j_same hF 944 dL_law_404 (by decide) ?_
  exact K _ _ kap1 _ _ (hP1.kr hFR) hM2 (pi_send hI (by omega)) (by omega) (by omega) (by omega)

set_option maxRecDepth 100000 in
set_option maxHeartbeats 4000000 in
theorem lwc_advance {φ : Fi} {nm : String} (hF : Fx φ cL_law 4 RL (some .boolean) nm 11 450 600000 7302250) {b L : Nat} {xs : Nat → Int32} (hLS : LwS φ b L xs) (hL : L ≤ 3072) {X : Hp} {tr kap kc ks : Nat} {ad : Nat → Nat} {r pf er : Int → Int} {sv i c : Int} (hi : 0 ≤ i ∧ i + 6 ≤ L) (hc : i = 6 * c) (hP : PP X tr kap c (r, pf, sv, er)) (hM : MMx X ad (r, pf, sv, er)) (hI : PI (r, pf, sv, er) c) (hk0 : 384 ≤ kap) (hkc : kc ≤ 131 + (kap - 384)) (hks : ks ≤ 256593 + 6 * (kap - 384)) (K : ∀ (X2 : Hp) (σ2 : St) (kap2 kc2 ks2 : Nat), PP X2 tr kap2 (c + 1) σ2 → MMx X2 ad σ2 → PI σ2 (c + 1) → 384 ≤ kap2 → kc2 ≤ 131 + (kap2 - 384) → ks2 ≤ 256593 + 6 * (kap2 - 384) → Jd φ X2 kc2 ks2 944 [some (.ref b), some (.ref tr), some (.ref (ad 0)), some (vi i)] []) : Jd φ X kc ks 409 [some (.ref b), some (.ref tr), some (.ref (ad 0)), some (vi i)] [] := by
  have hi5 : c ≤ 511 ∧ 0 ≤ c := by omega
  obtain ⟨⟨⟨hGV, hNC, hTL⟩, ⟨ho, hVN, h02, hIN⟩, ⟨hm, hmt, hTm, hvm⟩, ⟨hA, hT, hAP⟩, ⟨hRI, hQI, hvd, hvq⟩, hC⟩, hEc, hsv, -⟩ := id hI
  dsimp only at hGV hNC ho hVN h02 hm hmt hvm hA hT hAP hRI hQI hvd hC hEc hsv
  have hG := hGV.1
  have hE : EI er := fun j a b => by have := hEc j a b; omega
  have hVC : VC r := by unfold VC; unfold VN at hVN; omega
  have hkl := hP.le
  obtain ⟨olp, hop⟩ := hP.obj
  refine j_aload_n hF dL_law_409 rfl (j_aload_n hF dL_law_410 rfl (j_iload_n hF dL_law_411 rfl (j_iconst hF dL_law_412 (j_iadd hF dL_law_413 (j_sld hF hLS hL dL_law_414 (by omega) (?_))))))
  refine j_callVv hF (c_X7_advance hP hGV hE hsv hA hRI (by omega) h02 hC hm ho (sx_rg _ _)) ms_X7_advance mv_X7_advance lk_RL_45 dL_law_415 hop rfl rfl rfl (by simp [Value.category]) ⟨⟨(Nat.le_of_ble_eq_true rfl), (Nat.le_of_ble_eq_true rfl)⟩, by omega, by omega⟩ (fun v1 X1 k1 n1 hp1 hE1 => ?_)
  obtain ⟨rfl, kap1, hP1, hF1, hk1, hk2, hk3⟩ := hp1
  have hkl1 := hP1.le
  obtain ⟨sn, lw_, rc, wt, wg, ls_, ac, fi, as_, hh, hMM⟩ := hM.keep hF1
  dsimp only at hMM
  refine j_aload_n hF dL_law_418 rfl (j_aload_n hF dL_law_419 rfl (j_iload_n hF dL_law_420 rfl (j_iconst hF dL_law_421 (j_iadd hF dL_law_422 (j_sld hF hLS hL dL_law_423 (by omega) (?_))))))
  refine j_callV hF (c_X8_advance hMM hG hE hRI (by omega) hm hsv ho (sx_rg _ _)) ms_X8_advance mv_X8_advance lk_RL_48 dL_law_424 hMM.1 rfl rfl rfl (by simp [Value.category]) ⟨⟨(Nat.le_of_ble_eq_true rfl), (Nat.le_of_ble_eq_true rfl)⟩, by omega, by omega⟩ (fun v2 X2 hp2 hE2 => ?_)
  obtain ⟨rfl, hMX⟩ := hp2
  obtain ⟨hM2, hFR⟩ := hMX.x
  refine j_same hF 944 dL_law_427 (by decide) ?_
  exact K _ _ kap1 _ _ (hP1.kr hFR) hM2 (pi_advance hI (by omega)) (by omega) (by omega) (by omega)

set_option maxRecDepth 100000 in
set_option maxHeartbeats 4000000 in
theorem lwc_close {φ : Fi} {nm : String} (hF : Fx φ cL_law 4 RL (some .boolean) nm 11 450 600000 7302250) {b L : Nat} {xs : Nat → Int32} (hLS : LwS φ b L xs) (hL : L ≤ 3072) {X : Hp} {tr kap kc ks : Nat} {ad : Nat → Nat} {r pf er : Int → Int} {sv i c : Int} (hi : 0 ≤ i ∧ i + 6 ≤ L) (hc : i = 6 * c) (hP : PP X tr kap c (r, pf, sv, er)) (hM : MMx X ad (r, pf, sv, er)) (hI : PI (r, pf, sv, er) c) (hk0 : 384 ≤ kap) (hkc : kc ≤ 131 + (kap - 384)) (hks : ks ≤ 256593 + 6 * (kap - 384)) (K : ∀ (X2 : Hp) (σ2 : St) (kap2 kc2 ks2 : Nat), PP X2 tr kap2 (c + 1) σ2 → MMx X2 ad σ2 → PI σ2 (c + 1) → 384 ≤ kap2 → kc2 ≤ 131 + (kap2 - 384) → ks2 ≤ 256593 + 6 * (kap2 - 384) → Jd φ X2 kc2 ks2 944 [some (.ref b), some (.ref tr), some (.ref (ad 0)), some (vi i)] []) : Jd φ X kc ks 432 [some (.ref b), some (.ref tr), some (.ref (ad 0)), some (vi i)] [] := by
  have hi5 : c ≤ 511 ∧ 0 ≤ c := by omega
  obtain ⟨⟨⟨hGV, hNC, hTL⟩, ⟨ho, hVN, h02, hIN⟩, ⟨hm, hmt, hTm, hvm⟩, ⟨hA, hT, hAP⟩, ⟨hRI, hQI, hvd, hvq⟩, hC⟩, hEc, hsv, -⟩ := id hI
  dsimp only at hGV hNC ho hVN h02 hm hmt hvm hA hT hAP hRI hQI hvd hC hEc hsv
  have hG := hGV.1
  have hE : EI er := fun j a b => by have := hEc j a b; omega
  have hVC : VC r := by unfold VC; unfold VN at hVN; omega
  have hkl := hP.le
  obtain ⟨olp, hop⟩ := hP.obj
  refine j_aload_n hF dL_law_432 rfl (j_aload_n hF dL_law_433 rfl (j_iload_n hF dL_law_434 rfl (j_iconst hF dL_law_435 (j_iadd hF dL_law_436 (j_sld hF hLS hL dL_law_437 (by omega) (?_))))))
  refine j_callVv hF (c_X7_close hP hGV hE hsv hA hRI (by omega) h02 hC hm ho (sx_rg _ _)) ms_X7_close mv_X7_close lk_RL_49 dL_law_438 hop rfl rfl rfl (by simp [Value.category]) ⟨⟨(Nat.le_of_ble_eq_true rfl), (Nat.le_of_ble_eq_true rfl)⟩, by omega, by omega⟩ (fun v1 X1 k1 n1 hp1 hE1 => ?_)
  obtain ⟨rfl, kap1, hP1, hF1, hk1, hk2, hk3⟩ := hp1
  have hkl1 := hP1.le
  obtain ⟨sn, lw_, rc, wt, wg, ls_, ac, fi, as_, hh, hMM⟩ := hM.keep hF1
  dsimp only at hMM
  refine j_aload_n hF dL_law_441 rfl (j_aload_n hF dL_law_442 rfl (j_iload_n hF dL_law_443 rfl (j_iconst hF dL_law_444 (j_iadd hF dL_law_445 (j_sld hF hLS hL dL_law_446 (by omega) (?_))))))
  refine j_callV hF (c_X8_close hMM hG hE hRI (by omega) hm hsv ho (sx_rg _ _)) ms_X8_close mv_X8_close lk_RL_52 dL_law_447 hMM.1 rfl rfl rfl (by simp [Value.category]) ⟨⟨(Nat.le_of_ble_eq_true rfl), (Nat.le_of_ble_eq_true rfl)⟩, by omega, by omega⟩ (fun v2 X2 hp2 hE2 => ?_)
  obtain ⟨rfl, hMX⟩ := hp2
  obtain ⟨hM2, hFR⟩ := hMX.x
  refine j_same hF 944 dL_law_450 (by decide) ?_
  exact K _ _ kap1 _ _ (hP1.kr hFR) hM2 (pi_close hI (by omega)) (by omega) (by omega) (by omega)

set_option maxRecDepth 100000 in
set_option maxHeartbeats 4000000 in
theorem lwc_process {φ : Fi} {nm : String} (hF : Fx φ cL_law 4 RL (some .boolean) nm 11 450 600000 7302250) {b L : Nat} {xs : Nat → Int32} (hLS : LwS φ b L xs) (hL : L ≤ 3072) {X : Hp} {tr kap kc ks : Nat} {ad : Nat → Nat} {r pf er : Int → Int} {sv i c : Int} (hi : 0 ≤ i ∧ i + 6 ≤ L) (hc : i = 6 * c) (hP : PP X tr kap c (r, pf, sv, er)) (hM : MMx X ad (r, pf, sv, er)) (hI : PI (r, pf, sv, er) c) (hk0 : 384 ≤ kap) (hkc : kc ≤ 131 + (kap - 384)) (hks : ks ≤ 256593 + 6 * (kap - 384)) (K : ∀ (X2 : Hp) (σ2 : St) (kap2 kc2 ks2 : Nat), PP X2 tr kap2 (c + 1) σ2 → MMx X2 ad σ2 → PI σ2 (c + 1) → 384 ≤ kap2 → kc2 ≤ 131 + (kap2 - 384) → ks2 ≤ 256593 + 6 * (kap2 - 384) → Jd φ X2 kc2 ks2 944 [some (.ref b), some (.ref tr), some (.ref (ad 0)), some (vi i)] []) : Jd φ X kc ks 455 [some (.ref b), some (.ref tr), some (.ref (ad 0)), some (vi i)] [] := by
  have hi5 : c ≤ 511 ∧ 0 ≤ c := by omega
  obtain ⟨⟨⟨hGV, hNC, hTL⟩, ⟨ho, hVN, h02, hIN⟩, ⟨hm, hmt, hTm, hvm⟩, ⟨hA, hT, hAP⟩, ⟨hRI, hQI, hvd, hvq⟩, hC⟩, hEc, hsv, -⟩ := id hI
  dsimp only at hGV hNC ho hVN h02 hm hmt hvm hA hT hAP hRI hQI hvd hC hEc hsv
  have hG := hGV.1
  have hE : EI er := fun j a b => by have := hEc j a b; omega
  have hVC : VC r := by unfold VC; unfold VN at hVN; omega
  have hkl := hP.le
  obtain ⟨olp, hop⟩ := hP.obj
  refine j_aload_n hF dL_law_455 rfl (j_aload_n hF dL_law_456 rfl (j_iload_n hF dL_law_457 rfl (j_iconst hF dL_law_458 (j_iadd hF dL_law_459 (j_sld hF hLS hL dL_law_460 (by omega) (?_))))))
  refine j_aload_n hF dL_law_461 rfl (j_iload_n hF dL_law_462 rfl (j_iconst hF dL_law_463 (j_iadd hF dL_law_464 (j_sld hF hLS hL dL_law_465 (by omega) (j_aload_n hF dL_law_466 rfl (?_))))))
  refine j_iload_n hF dL_law_467 rfl (j_iconst hF dL_law_468 (j_iadd hF dL_law_469 (j_sld hF hLS hL dL_law_470 (by omega) (j_aload_n hF dL_law_471 rfl (j_iload_n hF dL_law_472 rfl (?_))))))
  refine j_iconst hF dL_law_473 (j_iadd hF dL_law_474 (j_sld hF hLS hL dL_law_475 (by omega) (j_aload_n hF dL_law_476 rfl (j_iload_n hF dL_law_477 rfl (j_iconst hF dL_law_478 (?_))))))
  refine j_iadd hF dL_law_479 (j_sld hF hLS hL dL_law_480 (by omega) (j_callVv hF (c_X7_process hP hGV hE hsv hA hRI (by omega) h02 hC hm ho hvm hmt (sx_rg _ _) (sx_rg _ _) (sx_rg _ _) (sx_rg _ _) (sx_rg _ _)) ms_X7_process mv_X7_process lk_RL_53 dL_law_481 hop rfl rfl rfl (by simp [Value.category]) ⟨⟨(Nat.le_of_ble_eq_true rfl), (Nat.le_of_ble_eq_true rfl)⟩, by omega, by omega⟩ (fun v1 X1 k1 n1 hp1 hE1 => ?_)))
  obtain ⟨rfl, kap1, hP1, hF1, hk1, hk2, hk3⟩ := hp1
  have hkl1 := hP1.le
  obtain ⟨sn, lw_, rc, wt, wg, ls_, ac, fi, as_, hh, hMM⟩ := hM.keep hF1
  dsimp only at hMM
  refine j_aload_n hF dL_law_484 rfl (j_aload_n hF dL_law_485 rfl (j_iload_n hF dL_law_486 rfl (j_iconst hF dL_law_487 (j_iadd hF dL_law_488 (j_sld hF hLS hL dL_law_489 (by omega) (?_))))))
  refine j_aload_n hF dL_law_490 rfl (j_iload_n hF dL_law_491 rfl (j_iconst hF dL_law_492 (j_iadd hF dL_law_493 (j_sld hF hLS hL dL_law_494 (by omega) (j_aload_n hF dL_law_495 rfl (?_))))))
  refine j_iload_n hF dL_law_496 rfl (j_iconst hF dL_law_497 (j_iadd hF dL_law_498 (j_sld hF hLS hL dL_law_499 (by omega) (j_aload_n hF dL_law_500 rfl (j_iload_n hF dL_law_501 rfl (?_))))))
  refine j_iconst hF dL_law_502 (j_iadd hF dL_law_503 (j_sld hF hLS hL dL_law_504 (by omega) (j_aload_n hF dL_law_505 rfl (j_iload_n hF dL_law_506 rfl (j_iconst hF dL_law_507 (?_))))))
  refine j_iadd hF dL_law_508 (j_sld hF hLS hL dL_law_509 (by omega) (j_callV hF (c_X8_process hMM hG hE hRI (by omega) hm hsv hA hmt hVC (sx_rg _ _) (sx_rg _ _) (sx_rg _ _) (sx_rg _ _) (sx_rg _ _)) ms_X8_process mv_X8_process lk_RL_57 dL_law_510 hMM.1 rfl rfl rfl (by simp [Value.category]) ⟨⟨(Nat.le_of_ble_eq_true rfl), (Nat.le_of_ble_eq_true rfl)⟩, by omega, by omega⟩ (fun v2 X2 hp2 hE2 => ?_)))
  obtain ⟨rfl, hMX⟩ := hp2
  obtain ⟨hM2, hFR⟩ := hMX.x
  refine j_same hF 944 dL_law_513 (by decide) ?_
  exact K _ _ kap1 _ _ (hP1.kr hFR) hM2 (pi_process hI (by omega)) (by omega) (by omega) (by omega)

set_option maxRecDepth 100000 in
set_option maxHeartbeats 4000000 in
theorem lwc_deliver {φ : Fi} {nm : String} (hF : Fx φ cL_law 4 RL (some .boolean) nm 11 450 600000 7302250) {b L : Nat} {xs : Nat → Int32} (hLS : LwS φ b L xs) (hL : L ≤ 3072) {X : Hp} {tr kap kc ks : Nat} {ad : Nat → Nat} {r pf er : Int → Int} {sv i c : Int} (hi : 0 ≤ i ∧ i + 6 ≤ L) (hc : i = 6 * c) (hP : PP X tr kap c (r, pf, sv, er)) (hM : MMx X ad (r, pf, sv, er)) (hI : PI (r, pf, sv, er) c) (hk0 : 384 ≤ kap) (hkc : kc ≤ 131 + (kap - 384)) (hks : ks ≤ 256593 + 6 * (kap - 384)) (K : ∀ (X2 : Hp) (σ2 : St) (kap2 kc2 ks2 : Nat), PP X2 tr kap2 (c + 1) σ2 → MMx X2 ad σ2 → PI σ2 (c + 1) → 384 ≤ kap2 → kc2 ≤ 131 + (kap2 - 384) → ks2 ≤ 256593 + 6 * (kap2 - 384) → Jd φ X2 kc2 ks2 944 [some (.ref b), some (.ref tr), some (.ref (ad 0)), some (vi i)] []) : Jd φ X kc ks 518 [some (.ref b), some (.ref tr), some (.ref (ad 0)), some (vi i)] [] := by
  have hi5 : c ≤ 511 ∧ 0 ≤ c := by omega
  obtain ⟨⟨⟨hGV, hNC, hTL⟩, ⟨ho, hVN, h02, hIN⟩, ⟨hm, hmt, hTm, hvm⟩, ⟨hA, hT, hAP⟩, ⟨hRI, hQI, hvd, hvq⟩, hC⟩, hEc, hsv, -⟩ := id hI
  dsimp only at hGV hNC ho hVN h02 hm hmt hvm hA hT hAP hRI hQI hvd hC hEc hsv
  have hG := hGV.1
  have hE : EI er := fun j a b => by have := hEc j a b; omega
  have hVC : VC r := by unfold VC; unfold VN at hVN; omega
  have hkl := hP.le
  obtain ⟨olp, hop⟩ := hP.obj
  refine j_aload_n hF dL_law_518 rfl (j_aload_n hF dL_law_519 rfl (j_iload_n hF dL_law_520 rfl (j_iconst hF dL_law_521 (j_iadd hF dL_law_522 (j_sld hF hLS hL dL_law_523 (by omega) (?_))))))
  refine j_aload_n hF dL_law_524 rfl (j_iload_n hF dL_law_525 rfl (j_iconst hF dL_law_526 (j_iadd hF dL_law_527 (j_sld hF hLS hL dL_law_528 (by omega) (j_aload_n hF dL_law_529 rfl (?_))))))
  refine j_iload_n hF dL_law_530 rfl (j_iconst hF dL_law_531 (j_iadd hF dL_law_532 (j_sld hF hLS hL dL_law_533 (by omega) (j_aload_n hF dL_law_534 rfl (j_iload_n hF dL_law_535 rfl (?_))))))
  refine j_iconst hF dL_law_536 (j_iadd hF dL_law_537 (j_sld hF hLS hL dL_law_538 (by omega) (j_callVv hF (c_X7_deliver hP hGV hE (by omega) hsv hA hRI (by omega) h02 hC hm ho hT hAP hvd (sx_rg _ _) (sx_rg _ _) (sx_rg _ _) (sx_rg _ _)) ms_X7_deliver mv_X7_deliver lk_RL_58 dL_law_539 hop rfl rfl rfl (by simp [Value.category]) ⟨⟨(Nat.le_of_ble_eq_true rfl), (Nat.le_of_ble_eq_true rfl)⟩, by omega, by omega⟩ (fun v1 X1 k1 n1 hp1 hE1 => ?_))))
  obtain ⟨rfl, kap1, hP1, hF1, hk1, hk2, hk3⟩ := hp1
  have hkl1 := hP1.le
  obtain ⟨sn, lw_, rc, wt, wg, ls_, ac, fi, as_, hh, hMM⟩ := hM.keep hF1
  dsimp only at hMM
  refine j_aload_n hF dL_law_542 rfl (j_aload_n hF dL_law_543 rfl (j_iload_n hF dL_law_544 rfl (j_iconst hF dL_law_545 (j_iadd hF dL_law_546 (j_sld hF hLS hL dL_law_547 (by omega) (?_))))))
  refine j_aload_n hF dL_law_548 rfl (j_iload_n hF dL_law_549 rfl (j_iconst hF dL_law_550 (j_iadd hF dL_law_551 (j_sld hF hLS hL dL_law_552 (by omega) (j_aload_n hF dL_law_553 rfl (?_))))))
  refine j_iload_n hF dL_law_554 rfl (j_iconst hF dL_law_555 (j_iadd hF dL_law_556 (j_sld hF hLS hL dL_law_557 (by omega) (j_aload_n hF dL_law_558 rfl (j_iload_n hF dL_law_559 rfl (?_))))))
  refine j_iconst hF dL_law_560 (j_iadd hF dL_law_561 (j_sld hF hLS hL dL_law_562 (by omega) (j_callV hF (c_X8_deliver hMM hG hE hRI (by omega) hm hsv hA hT hVC (sx_rg _ _) (sx_rg _ _) (sx_rg _ _) (sx_rg _ _)) ms_X8_deliver mv_X8_deliver lk_RL_61 dL_law_563 hMM.1 rfl rfl rfl (by simp [Value.category]) ⟨⟨(Nat.le_of_ble_eq_true rfl), (Nat.le_of_ble_eq_true rfl)⟩, by omega, by omega⟩ (fun v2 X2 hp2 hE2 => ?_))))
  obtain ⟨rfl, hMX⟩ := hp2
  obtain ⟨hM2, hFR⟩ := hMX.x
  refine j_same hF 944 dL_law_566 (by decide) ?_
  exact K _ _ kap1 _ _ (hP1.kr hFR) hM2 (pi_deliver hI (by omega)) (by omega) (by omega) (by omega)

set_option maxRecDepth 100000 in
set_option maxHeartbeats 4000000 in
theorem lwc_receive {φ : Fi} {nm : String} (hF : Fx φ cL_law 4 RL (some .boolean) nm 11 450 600000 7302250) {b L : Nat} {xs : Nat → Int32} (hLS : LwS φ b L xs) (hL : L ≤ 3072) {X : Hp} {tr kap kc ks : Nat} {ad : Nat → Nat} {r pf er : Int → Int} {sv i c : Int} (hi : 0 ≤ i ∧ i + 6 ≤ L) (hc : i = 6 * c) (hP : PP X tr kap c (r, pf, sv, er)) (hM : MMx X ad (r, pf, sv, er)) (hI : PI (r, pf, sv, er) c) (hk0 : 384 ≤ kap) (hkc : kc ≤ 131 + (kap - 384)) (hks : ks ≤ 256593 + 6 * (kap - 384)) (K : ∀ (X2 : Hp) (σ2 : St) (kap2 kc2 ks2 : Nat), PP X2 tr kap2 (c + 1) σ2 → MMx X2 ad σ2 → PI σ2 (c + 1) → 384 ≤ kap2 → kc2 ≤ 131 + (kap2 - 384) → ks2 ≤ 256593 + 6 * (kap2 - 384) → Jd φ X2 kc2 ks2 944 [some (.ref b), some (.ref tr), some (.ref (ad 0)), some (vi i)] []) : Jd φ X kc ks 571 [some (.ref b), some (.ref tr), some (.ref (ad 0)), some (vi i)] [] := by
  have hi5 : c ≤ 511 ∧ 0 ≤ c := by omega
  obtain ⟨⟨⟨hGV, hNC, hTL⟩, ⟨ho, hVN, h02, hIN⟩, ⟨hm, hmt, hTm, hvm⟩, ⟨hA, hT, hAP⟩, ⟨hRI, hQI, hvd, hvq⟩, hC⟩, hEc, hsv, -⟩ := id hI
  dsimp only at hGV hNC ho hVN h02 hm hmt hvm hA hT hAP hRI hQI hvd hC hEc hsv
  have hG := hGV.1
  have hE : EI er := fun j a b => by have := hEc j a b; omega
  have hVC : VC r := by unfold VC; unfold VN at hVN; omega
  have hkl := hP.le
  obtain ⟨olp, hop⟩ := hP.obj
  refine j_aload_n hF dL_law_571 rfl (j_aload_n hF dL_law_572 rfl (j_iload_n hF dL_law_573 rfl (j_iconst hF dL_law_574 (j_iadd hF dL_law_575 (j_sld hF hLS hL dL_law_576 (by omega) (?_))))))
  refine j_aload_n hF dL_law_577 rfl (j_iload_n hF dL_law_578 rfl (j_iconst hF dL_law_579 (j_iadd hF dL_law_580 (j_sld hF hLS hL dL_law_581 (by omega) (j_callVv hF (c_X7_receive hP hGV hE hsv hA hRI (by omega) h02 hC hm ho hQI (by omega) (sx_rg _ _) (sx_rg _ _)) ms_X7_receive mv_X7_receive lk_RL_62 dL_law_582 hop rfl rfl rfl (by simp [Value.category]) ⟨⟨(Nat.le_of_ble_eq_true rfl), (Nat.le_of_ble_eq_true rfl)⟩, by omega, by omega⟩ (fun v1 X1 k1 n1 hp1 hE1 => ?_))))))
  obtain ⟨rfl, kap1, hP1, hF1, hk1, hk2, hk3⟩ := hp1
  have hkl1 := hP1.le
  obtain ⟨sn, lw_, rc, wt, wg, ls_, ac, fi, as_, hh, hMM⟩ := hM.keep hF1
  dsimp only at hMM
  refine j_aload_n hF dL_law_585 rfl (j_aload_n hF dL_law_586 rfl (j_iload_n hF dL_law_587 rfl (j_iconst hF dL_law_588 (j_iadd hF dL_law_589 (j_sld hF hLS hL dL_law_590 (by omega) (?_))))))
  refine j_aload_n hF dL_law_591 rfl (j_iload_n hF dL_law_592 rfl (j_iconst hF dL_law_593 (j_iadd hF dL_law_594 (j_sld hF hLS hL dL_law_595 (by omega) (j_callV hF (c_X8_receive hMM hE hRI (by omega) hsv hQI (sx_rg _ _) (sx_rg _ _)) ms_X8_receive mv_X8_receive lk_RL_65 dL_law_596 hMM.1 rfl rfl rfl (by simp [Value.category]) ⟨⟨(Nat.le_of_ble_eq_true rfl), (Nat.le_of_ble_eq_true rfl)⟩, by omega, by omega⟩ (fun v2 X2 hp2 hE2 => ?_))))))
  obtain ⟨rfl, hMX⟩ := hp2
  obtain ⟨hM2, hFR⟩ := hMX.x
  refine j_same hF 944 dL_law_599 (by decide) ?_
  exact K _ _ kap1 _ _ (hP1.kr hFR) hM2 (pi_receive hI (by omega)) (by omega) (by omega) (by omega)

set_option maxRecDepth 100000 in
set_option maxHeartbeats 4000000 in
theorem lwc_messages {φ : Fi} {nm : String} (hF : Fx φ cL_law 4 RL (some .boolean) nm 11 450 600000 7302250) {b L : Nat} {xs : Nat → Int32} (hLS : LwS φ b L xs) (hL : L ≤ 3072) {X : Hp} {tr kap kc ks : Nat} {ad : Nat → Nat} {r pf er : Int → Int} {sv i c : Int} (hi : 0 ≤ i ∧ i + 6 ≤ L) (hc : i = 6 * c) (hP : PP X tr kap c (r, pf, sv, er)) (hM : MMx X ad (r, pf, sv, er)) (hI : PI (r, pf, sv, er) c) (hk0 : 384 ≤ kap) (hkc : kc ≤ 131 + (kap - 384)) (hks : ks ≤ 256593 + 6 * (kap - 384)) (K : ∀ (X2 : Hp) (σ2 : St) (kap2 kc2 ks2 : Nat), PP X2 tr kap2 (c + 1) σ2 → MMx X2 ad σ2 → PI σ2 (c + 1) → 384 ≤ kap2 → kc2 ≤ 131 + (kap2 - 384) → ks2 ≤ 256593 + 6 * (kap2 - 384) → Jd φ X2 kc2 ks2 944 [some (.ref b), some (.ref tr), some (.ref (ad 0)), some (vi i)] []) : Jd φ X kc ks 604 [some (.ref b), some (.ref tr), some (.ref (ad 0)), some (vi i)] [] := by
  have hi5 : c ≤ 511 ∧ 0 ≤ c := by omega
  obtain ⟨⟨⟨hGV, hNC, hTL⟩, ⟨ho, hVN, h02, hIN⟩, ⟨hm, hmt, hTm, hvm⟩, ⟨hA, hT, hAP⟩, ⟨hRI, hQI, hvd, hvq⟩, hC⟩, hEc, hsv, -⟩ := id hI
  dsimp only at hGV hNC ho hVN h02 hm hmt hvm hA hT hAP hRI hQI hvd hC hEc hsv
  have hG := hGV.1
  have hE : EI er := fun j a b => by have := hEc j a b; omega
  have hVC : VC r := by unfold VC; unfold VN at hVN; omega
  have hkl := hP.le
  obtain ⟨olp, hop⟩ := hP.obj
  refine j_aload_n hF dL_law_604 rfl (j_aload_n hF dL_law_605 rfl (j_iload_n hF dL_law_606 rfl (j_iconst hF dL_law_607 (j_iadd hF dL_law_608 (j_sld hF hLS hL dL_law_609 (by omega) (?_))))))
  refine j_aload_n hF dL_law_610 rfl (j_iload_n hF dL_law_611 rfl (j_iconst hF dL_law_612 (j_iadd hF dL_law_613 (j_sld hF hLS hL dL_law_614 (by omega) (j_callVv hF (c_X7_messages hP hGV hE (sx_rg _ _) (sx_rg _ _)) ms_X7_messages mv_X7_messages lk_RL_66 dL_law_615 hop rfl rfl rfl (by simp [Value.category]) ⟨⟨(Nat.le_of_ble_eq_true rfl), (Nat.le_of_ble_eq_true rfl)⟩, by omega, by omega⟩ (fun v1 X1 k1 n1 hp1 hE1 => ?_))))))
  obtain ⟨rfl, kap1, hP1, hF1, hk1, hk2, hk3⟩ := hp1
  have hkl1 := hP1.le
  obtain ⟨sn, lw_, rc, wt, wg, ls_, ac, fi, as_, hh, hMM⟩ := hM.keep hF1
  dsimp only at hMM
  refine j_aload_n hF dL_law_618 rfl (j_aload_n hF dL_law_619 rfl (j_iload_n hF dL_law_620 rfl (j_iconst hF dL_law_621 (j_iadd hF dL_law_622 (j_sld hF hLS hL dL_law_623 (by omega) (?_))))))
  refine j_aload_n hF dL_law_624 rfl (j_iload_n hF dL_law_625 rfl (j_iconst hF dL_law_626 (j_iadd hF dL_law_627 (j_sld hF hLS hL dL_law_628 (by omega) (j_callV hF (c_X8_messages hMM hG hE (sx_rg _ _) (sx_rg _ _)) ms_X8_messages mv_X8_messages lk_RL_69 dL_law_629 hMM.1 rfl rfl rfl (by simp [Value.category]) ⟨⟨(Nat.le_of_ble_eq_true rfl), (Nat.le_of_ble_eq_true rfl)⟩, by omega, by omega⟩ (fun v2 X2 hp2 hE2 => ?_))))))
  obtain ⟨rfl, hMX⟩ := hp2
  obtain ⟨hM2, hFR⟩ := hMX.x
  refine j_same hF 944 dL_law_632 (by decide) ?_
  exact K _ _ kap1 _ _ (hP1.kr hFR) hM2 (by unfold sp_messages; exact pi_rd hI) (by omega) (by omega) (by omega)

set_option maxRecDepth 100000 in
set_option maxHeartbeats 4000000 in
theorem lwc_messageTime {φ : Fi} {nm : String} (hF : Fx φ cL_law 4 RL (some .boolean) nm 11 450 600000 7302250) {b L : Nat} {xs : Nat → Int32} (hLS : LwS φ b L xs) (hL : L ≤ 3072) {X : Hp} {tr kap kc ks : Nat} {ad : Nat → Nat} {r pf er : Int → Int} {sv i c : Int} (hi : 0 ≤ i ∧ i + 6 ≤ L) (hc : i = 6 * c) (hP : PP X tr kap c (r, pf, sv, er)) (hM : MMx X ad (r, pf, sv, er)) (hI : PI (r, pf, sv, er) c) (hk0 : 384 ≤ kap) (hkc : kc ≤ 131 + (kap - 384)) (hks : ks ≤ 256593 + 6 * (kap - 384)) (K : ∀ (X2 : Hp) (σ2 : St) (kap2 kc2 ks2 : Nat), PP X2 tr kap2 (c + 1) σ2 → MMx X2 ad σ2 → PI σ2 (c + 1) → 384 ≤ kap2 → kc2 ≤ 131 + (kap2 - 384) → ks2 ≤ 256593 + 6 * (kap2 - 384) → Jd φ X2 kc2 ks2 944 [some (.ref b), some (.ref tr), some (.ref (ad 0)), some (vi i)] []) : Jd φ X kc ks 637 [some (.ref b), some (.ref tr), some (.ref (ad 0)), some (vi i)] [] := by
  have hi5 : c ≤ 511 ∧ 0 ≤ c := by omega
  obtain ⟨⟨⟨hGV, hNC, hTL⟩, ⟨ho, hVN, h02, hIN⟩, ⟨hm, hmt, hTm, hvm⟩, ⟨hA, hT, hAP⟩, ⟨hRI, hQI, hvd, hvq⟩, hC⟩, hEc, hsv, -⟩ := id hI
  dsimp only at hGV hNC ho hVN h02 hm hmt hvm hA hT hAP hRI hQI hvd hC hEc hsv
  have hG := hGV.1
  have hE : EI er := fun j a b => by have := hEc j a b; omega
  have hVC : VC r := by unfold VC; unfold VN at hVN; omega
  have hkl := hP.le
  obtain ⟨olp, hop⟩ := hP.obj
  refine j_aload_n hF dL_law_637 rfl (j_aload_n hF dL_law_638 rfl (j_iload_n hF dL_law_639 rfl (j_iconst hF dL_law_640 (j_iadd hF dL_law_641 (j_sld hF hLS hL dL_law_642 (by omega) (?_))))))
  refine j_aload_n hF dL_law_643 rfl (j_iload_n hF dL_law_644 rfl (j_iconst hF dL_law_645 (j_iadd hF dL_law_646 (j_sld hF hLS hL dL_law_647 (by omega) (j_aload_n hF dL_law_648 rfl (?_))))))
  refine j_iload_n hF dL_law_649 rfl (j_iconst hF dL_law_650 (j_iadd hF dL_law_651 (j_sld hF hLS hL dL_law_652 (by omega) (j_callVv hF (c_X7_messageTime hP hGV hE hm (sx_rg _ _) (sx_rg _ _) (sx_rg _ _)) ms_X7_messageTime mv_X7_messageTime lk_RL_70 dL_law_653 hop rfl rfl rfl (by simp [Value.category]) ⟨⟨(Nat.le_of_ble_eq_true rfl), (Nat.le_of_ble_eq_true rfl)⟩, by omega, by omega⟩ (fun v1 X1 k1 n1 hp1 hE1 => ?_)))))
  obtain ⟨rfl, kap1, hP1, hF1, hk1, hk2, hk3⟩ := hp1
  have hkl1 := hP1.le
  obtain ⟨sn, lw_, rc, wt, wg, ls_, ac, fi, as_, hh, hMM⟩ := hM.keep hF1
  dsimp only at hMM
  refine j_aload_n hF dL_law_656 rfl (j_aload_n hF dL_law_657 rfl (j_iload_n hF dL_law_658 rfl (j_iconst hF dL_law_659 (j_iadd hF dL_law_660 (j_sld hF hLS hL dL_law_661 (by omega) (?_))))))
  refine j_aload_n hF dL_law_662 rfl (j_iload_n hF dL_law_663 rfl (j_iconst hF dL_law_664 (j_iadd hF dL_law_665 (j_sld hF hLS hL dL_law_666 (by omega) (j_aload_n hF dL_law_667 rfl (?_))))))
  refine j_iload_n hF dL_law_668 rfl (j_iconst hF dL_law_669 (j_iadd hF dL_law_670 (j_sld hF hLS hL dL_law_671 (by omega) (j_callV hF (c_X8_messageTime hMM hG hE hm (sx_rg _ _) (sx_rg _ _) (sx_rg _ _)) ms_X8_messageTime mv_X8_messageTime lk_RL_73 dL_law_672 hMM.1 rfl rfl rfl (by simp [Value.category]) ⟨⟨(Nat.le_of_ble_eq_true rfl), (Nat.le_of_ble_eq_true rfl)⟩, by omega, by omega⟩ (fun v2 X2 hp2 hE2 => ?_)))))
  obtain ⟨rfl, hMX⟩ := hp2
  obtain ⟨hM2, hFR⟩ := hMX.x
  refine j_same hF 944 dL_law_675 (by decide) ?_
  exact K _ _ kap1 _ _ (hP1.kr hFR) hM2 (by unfold sp_messageTime; exact pi_rd hI) (by omega) (by omega) (by omega)

set_option maxRecDepth 100000 in
set_option maxHeartbeats 4000000 in
theorem lwc_requests {φ : Fi} {nm : String} (hF : Fx φ cL_law 4 RL (some .boolean) nm 11 450 600000 7302250) {b L : Nat} {xs : Nat → Int32} (hLS : LwS φ b L xs) (hL : L ≤ 3072) {X : Hp} {tr kap kc ks : Nat} {ad : Nat → Nat} {r pf er : Int → Int} {sv i c : Int} (hi : 0 ≤ i ∧ i + 6 ≤ L) (hc : i = 6 * c) (hP : PP X tr kap c (r, pf, sv, er)) (hM : MMx X ad (r, pf, sv, er)) (hI : PI (r, pf, sv, er) c) (hk0 : 384 ≤ kap) (hkc : kc ≤ 131 + (kap - 384)) (hks : ks ≤ 256593 + 6 * (kap - 384)) (K : ∀ (X2 : Hp) (σ2 : St) (kap2 kc2 ks2 : Nat), PP X2 tr kap2 (c + 1) σ2 → MMx X2 ad σ2 → PI σ2 (c + 1) → 384 ≤ kap2 → kc2 ≤ 131 + (kap2 - 384) → ks2 ≤ 256593 + 6 * (kap2 - 384) → Jd φ X2 kc2 ks2 944 [some (.ref b), some (.ref tr), some (.ref (ad 0)), some (vi i)] []) : Jd φ X kc ks 680 [some (.ref b), some (.ref tr), some (.ref (ad 0)), some (vi i)] [] := by
  have hi5 : c ≤ 511 ∧ 0 ≤ c := by omega
  obtain ⟨⟨⟨hGV, hNC, hTL⟩, ⟨ho, hVN, h02, hIN⟩, ⟨hm, hmt, hTm, hvm⟩, ⟨hA, hT, hAP⟩, ⟨hRI, hQI, hvd, hvq⟩, hC⟩, hEc, hsv, -⟩ := id hI
  dsimp only at hGV hNC ho hVN h02 hm hmt hvm hA hT hAP hRI hQI hvd hC hEc hsv
  have hG := hGV.1
  have hE : EI er := fun j a b => by have := hEc j a b; omega
  have hVC : VC r := by unfold VC; unfold VN at hVN; omega
  have hkl := hP.le
  obtain ⟨olp, hop⟩ := hP.obj
  refine j_aload_n hF dL_law_680 rfl (j_aload_n hF dL_law_681 rfl (j_iload_n hF dL_law_682 rfl (j_iconst hF dL_law_683 (j_iadd hF dL_law_684 (j_sld hF hLS hL dL_law_685 (by omega) (?_))))))
  refine j_aload_n hF dL_law_686 rfl (j_iload_n hF dL_law_687 rfl (j_iconst hF dL_law_688 (j_iadd hF dL_law_689 (j_sld hF hLS hL dL_law_690 (by omega) (j_callVv hF (c_X7_requests hP hGV hE hA hT hAP (sx_rg _ _) (sx_rg _ _)) ms_X7_requests mv_X7_requests lk_RL_74 dL_law_691 hop rfl rfl rfl (by simp [Value.category]) ⟨⟨(Nat.le_of_ble_eq_true rfl), (Nat.le_of_ble_eq_true rfl)⟩, by omega, by omega⟩ (fun v1 X1 k1 n1 hp1 hE1 => ?_))))))
  obtain ⟨rfl, kap1, hP1, hF1, hk1, hk2, hk3⟩ := hp1
  have hkl1 := hP1.le
  obtain ⟨sn, lw_, rc, wt, wg, ls_, ac, fi, as_, hh, hMM⟩ := hM.keep hF1
  dsimp only at hMM
  refine j_aload_n hF dL_law_694 rfl (j_aload_n hF dL_law_695 rfl (j_iload_n hF dL_law_696 rfl (j_iconst hF dL_law_697 (j_iadd hF dL_law_698 (j_sld hF hLS hL dL_law_699 (by omega) (?_))))))
  refine j_aload_n hF dL_law_700 rfl (j_iload_n hF dL_law_701 rfl (j_iconst hF dL_law_702 (j_iadd hF dL_law_703 (j_sld hF hLS hL dL_law_704 (by omega) (j_callV hF (c_X8_requests hMM hG hE hA (sx_rg _ _) (sx_rg _ _)) ms_X8_requests mv_X8_requests lk_RL_77 dL_law_705 hMM.1 rfl rfl rfl (by simp [Value.category]) ⟨⟨(Nat.le_of_ble_eq_true rfl), (Nat.le_of_ble_eq_true rfl)⟩, by omega, by omega⟩ (fun v2 X2 hp2 hE2 => ?_))))))
  obtain ⟨rfl, hMX⟩ := hp2
  obtain ⟨hM2, hFR⟩ := hMX.x
  refine j_same hF 944 dL_law_708 (by decide) ?_
  exact K _ _ kap1 _ _ (hP1.kr hFR) hM2 (by unfold sp_requests; exact pi_rd hI) (by omega) (by omega) (by omega)

set_option maxRecDepth 100000 in
set_option maxHeartbeats 4000000 in
theorem lwc_deliverable {φ : Fi} {nm : String} (hF : Fx φ cL_law 4 RL (some .boolean) nm 11 450 600000 7302250) {b L : Nat} {xs : Nat → Int32} (hLS : LwS φ b L xs) (hL : L ≤ 3072) {X : Hp} {tr kap kc ks : Nat} {ad : Nat → Nat} {r pf er : Int → Int} {sv i c : Int} (hi : 0 ≤ i ∧ i + 6 ≤ L) (hc : i = 6 * c) (hP : PP X tr kap c (r, pf, sv, er)) (hM : MMx X ad (r, pf, sv, er)) (hI : PI (r, pf, sv, er) c) (hk0 : 384 ≤ kap) (hkc : kc ≤ 131 + (kap - 384)) (hks : ks ≤ 256593 + 6 * (kap - 384)) (K : ∀ (X2 : Hp) (σ2 : St) (kap2 kc2 ks2 : Nat), PP X2 tr kap2 (c + 1) σ2 → MMx X2 ad σ2 → PI σ2 (c + 1) → 384 ≤ kap2 → kc2 ≤ 131 + (kap2 - 384) → ks2 ≤ 256593 + 6 * (kap2 - 384) → Jd φ X2 kc2 ks2 944 [some (.ref b), some (.ref tr), some (.ref (ad 0)), some (vi i)] []) : Jd φ X kc ks 713 [some (.ref b), some (.ref tr), some (.ref (ad 0)), some (vi i)] [] := by
  have hi5 : c ≤ 511 ∧ 0 ≤ c := by omega
  obtain ⟨⟨⟨hGV, hNC, hTL⟩, ⟨ho, hVN, h02, hIN⟩, ⟨hm, hmt, hTm, hvm⟩, ⟨hA, hT, hAP⟩, ⟨hRI, hQI, hvd, hvq⟩, hC⟩, hEc, hsv, -⟩ := id hI
  dsimp only at hGV hNC ho hVN h02 hm hmt hvm hA hT hAP hRI hQI hvd hC hEc hsv
  have hG := hGV.1
  have hE : EI er := fun j a b => by have := hEc j a b; omega
  have hVC : VC r := by unfold VC; unfold VN at hVN; omega
  have hkl := hP.le
  obtain ⟨olp, hop⟩ := hP.obj
  refine j_aload_n hF dL_law_713 rfl (j_aload_n hF dL_law_714 rfl (j_iload_n hF dL_law_715 rfl (j_iconst hF dL_law_716 (j_iadd hF dL_law_717 (j_sld hF hLS hL dL_law_718 (by omega) (?_))))))
  refine j_aload_n hF dL_law_719 rfl (j_iload_n hF dL_law_720 rfl (j_iconst hF dL_law_721 (j_iadd hF dL_law_722 (j_sld hF hLS hL dL_law_723 (by omega) (j_callVv hF (c_X7_deliverable hP hGV hE (by omega) hA hT hAP hvd (sx_rg _ _) (sx_rg _ _)) ms_X7_deliverable mv_X7_deliverable lk_RL_78 dL_law_724 hop rfl rfl rfl (by simp [Value.category]) ⟨⟨(Nat.le_of_ble_eq_true rfl), (Nat.le_of_ble_eq_true rfl)⟩, by omega, by omega⟩ (fun v1 X1 k1 n1 hp1 hE1 => ?_))))))
  obtain ⟨rfl, kap1, hP1, hF1, hk1, hk2, hk3⟩ := hp1
  have hkl1 := hP1.le
  obtain ⟨sn, lw_, rc, wt, wg, ls_, ac, fi, as_, hh, hMM⟩ := hM.keep hF1
  dsimp only at hMM
  refine j_aload_n hF dL_law_727 rfl (j_aload_n hF dL_law_728 rfl (j_iload_n hF dL_law_729 rfl (j_iconst hF dL_law_730 (j_iadd hF dL_law_731 (j_sld hF hLS hL dL_law_732 (by omega) (?_))))))
  refine j_aload_n hF dL_law_733 rfl (j_iload_n hF dL_law_734 rfl (j_iconst hF dL_law_735 (j_iadd hF dL_law_736 (j_sld hF hLS hL dL_law_737 (by omega) (j_callV hF (c_X8_deliverable hMM hG hE hA hT (sx_rg _ _) (sx_rg _ _)) ms_X8_deliverable mv_X8_deliverable lk_RL_81 dL_law_738 hMM.1 rfl rfl rfl (by simp [Value.category]) ⟨⟨(Nat.le_of_ble_eq_true rfl), (Nat.le_of_ble_eq_true rfl)⟩, by omega, by omega⟩ (fun v2 X2 hp2 hE2 => ?_))))))
  obtain ⟨rfl, hMX⟩ := hp2
  obtain ⟨hM2, hFR⟩ := hMX.x
  refine j_same hF 944 dL_law_741 (by decide) ?_
  exact K _ _ kap1 _ _ (hP1.kr hFR) hM2 (by unfold sp_deliverable; exact pi_rd hI) (by omega) (by omega) (by omega)

set_option maxRecDepth 100000 in
set_option maxHeartbeats 4000000 in
theorem lwc_count {φ : Fi} {nm : String} (hF : Fx φ cL_law 4 RL (some .boolean) nm 11 450 600000 7302250) {b L : Nat} {xs : Nat → Int32} (hLS : LwS φ b L xs) (hL : L ≤ 3072) {X : Hp} {tr kap kc ks : Nat} {ad : Nat → Nat} {r pf er : Int → Int} {sv i c : Int} (hi : 0 ≤ i ∧ i + 6 ≤ L) (hc : i = 6 * c) (hP : PP X tr kap c (r, pf, sv, er)) (hM : MMx X ad (r, pf, sv, er)) (hI : PI (r, pf, sv, er) c) (hk0 : 384 ≤ kap) (hkc : kc ≤ 131 + (kap - 384)) (hks : ks ≤ 256593 + 6 * (kap - 384)) (K : ∀ (X2 : Hp) (σ2 : St) (kap2 kc2 ks2 : Nat), PP X2 tr kap2 (c + 1) σ2 → MMx X2 ad σ2 → PI σ2 (c + 1) → 384 ≤ kap2 → kc2 ≤ 131 + (kap2 - 384) → ks2 ≤ 256593 + 6 * (kap2 - 384) → Jd φ X2 kc2 ks2 944 [some (.ref b), some (.ref tr), some (.ref (ad 0)), some (vi i)] []) : Jd φ X kc ks 746 [some (.ref b), some (.ref tr), some (.ref (ad 0)), some (vi i)] [] := by
  have hi5 : c ≤ 511 ∧ 0 ≤ c := by omega
  obtain ⟨⟨⟨hGV, hNC, hTL⟩, ⟨ho, hVN, h02, hIN⟩, ⟨hm, hmt, hTm, hvm⟩, ⟨hA, hT, hAP⟩, ⟨hRI, hQI, hvd, hvq⟩, hC⟩, hEc, hsv, -⟩ := id hI
  dsimp only at hGV hNC ho hVN h02 hm hmt hvm hA hT hAP hRI hQI hvd hC hEc hsv
  have hG := hGV.1
  have hE : EI er := fun j a b => by have := hEc j a b; omega
  have hVC : VC r := by unfold VC; unfold VN at hVN; omega
  have hkl := hP.le
  obtain ⟨olp, hop⟩ := hP.obj
  refine j_aload_n hF dL_law_746 rfl (j_aload_n hF dL_law_747 rfl (j_iload_n hF dL_law_748 rfl (j_iconst hF dL_law_749 (j_iadd hF dL_law_750 (j_sld hF hLS hL dL_law_751 (by omega) (?_))))))
  refine j_aload_n hF dL_law_752 rfl (j_iload_n hF dL_law_753 rfl (j_iconst hF dL_law_754 (j_iadd hF dL_law_755 (j_sld hF hLS hL dL_law_756 (by omega) (j_aload_n hF dL_law_757 rfl (?_))))))
  refine j_iload_n hF dL_law_758 rfl (j_iconst hF dL_law_759 (j_iadd hF dL_law_760 (j_sld hF hLS hL dL_law_761 (by omega) (j_callVv hF (c_X7_count hP hGV hE (sx_rg _ _) (sx_rg _ _) (sx_rg _ _)) ms_X7_count mv_X7_count lk_RL_82 dL_law_762 hop rfl rfl rfl (by simp [Value.category]) ⟨⟨(Nat.le_of_ble_eq_true rfl), (Nat.le_of_ble_eq_true rfl)⟩, by omega, by omega⟩ (fun v1 X1 k1 n1 hp1 hE1 => ?_)))))
  obtain ⟨rfl, kap1, hP1, hF1, hk1, hk2, hk3⟩ := hp1
  have hkl1 := hP1.le
  obtain ⟨sn, lw_, rc, wt, wg, ls_, ac, fi, as_, hh, hMM⟩ := hM.keep hF1
  dsimp only at hMM
  refine j_aload_n hF dL_law_765 rfl (j_aload_n hF dL_law_766 rfl (j_iload_n hF dL_law_767 rfl (j_iconst hF dL_law_768 (j_iadd hF dL_law_769 (j_sld hF hLS hL dL_law_770 (by omega) (?_))))))
  refine j_aload_n hF dL_law_771 rfl (j_iload_n hF dL_law_772 rfl (j_iconst hF dL_law_773 (j_iadd hF dL_law_774 (j_sld hF hLS hL dL_law_775 (by omega) (j_aload_n hF dL_law_776 rfl (?_))))))
  refine j_iload_n hF dL_law_777 rfl (j_iconst hF dL_law_778 (j_iadd hF dL_law_779 (j_sld hF hLS hL dL_law_780 (by omega) (j_callV hF (c_X8_count hMM hG hE (sx_rg _ _) (sx_rg _ _) (sx_rg _ _)) ms_X8_count mv_X8_count lk_RL_85 dL_law_781 hMM.1 rfl rfl rfl (by simp [Value.category]) ⟨⟨(Nat.le_of_ble_eq_true rfl), (Nat.le_of_ble_eq_true rfl)⟩, by omega, by omega⟩ (fun v2 X2 hp2 hE2 => ?_)))))
  obtain ⟨rfl, hMX⟩ := hp2
  obtain ⟨hM2, hFR⟩ := hMX.x
  refine j_same hF 944 dL_law_784 (by decide) ?_
  exact K _ _ kap1 _ _ (hP1.kr hFR) hM2 (by unfold sp_count; exact pi_rd hI) (by omega) (by omega) (by omega)

set_option maxRecDepth 100000 in
set_option maxHeartbeats 4000000 in
theorem lwc_active {φ : Fi} {nm : String} (hF : Fx φ cL_law 4 RL (some .boolean) nm 11 450 600000 7302250) {b L : Nat} {xs : Nat → Int32} (hLS : LwS φ b L xs) (hL : L ≤ 3072) {X : Hp} {tr kap kc ks : Nat} {ad : Nat → Nat} {r pf er : Int → Int} {sv i c : Int} (hi : 0 ≤ i ∧ i + 6 ≤ L) (hc : i = 6 * c) (hP : PP X tr kap c (r, pf, sv, er)) (hM : MMx X ad (r, pf, sv, er)) (hI : PI (r, pf, sv, er) c) (hk0 : 384 ≤ kap) (hkc : kc ≤ 131 + (kap - 384)) (hks : ks ≤ 256593 + 6 * (kap - 384)) (K : ∀ (X2 : Hp) (σ2 : St) (kap2 kc2 ks2 : Nat), PP X2 tr kap2 (c + 1) σ2 → MMx X2 ad σ2 → PI σ2 (c + 1) → 384 ≤ kap2 → kc2 ≤ 131 + (kap2 - 384) → ks2 ≤ 256593 + 6 * (kap2 - 384) → Jd φ X2 kc2 ks2 944 [some (.ref b), some (.ref tr), some (.ref (ad 0)), some (vi i)] []) : Jd φ X kc ks 789 [some (.ref b), some (.ref tr), some (.ref (ad 0)), some (vi i)] [] := by
  have hi5 : c ≤ 511 ∧ 0 ≤ c := by omega
  obtain ⟨⟨⟨hGV, hNC, hTL⟩, ⟨ho, hVN, h02, hIN⟩, ⟨hm, hmt, hTm, hvm⟩, ⟨hA, hT, hAP⟩, ⟨hRI, hQI, hvd, hvq⟩, hC⟩, hEc, hsv, -⟩ := id hI
  dsimp only at hGV hNC ho hVN h02 hm hmt hvm hA hT hAP hRI hQI hvd hC hEc hsv
  have hG := hGV.1
  have hE : EI er := fun j a b => by have := hEc j a b; omega
  have hVC : VC r := by unfold VC; unfold VN at hVN; omega
  have hkl := hP.le
  obtain ⟨olp, hop⟩ := hP.obj
  refine j_aload_n hF dL_law_789 rfl (j_aload_n hF dL_law_790 rfl (j_iload_n hF dL_law_791 rfl (j_iconst hF dL_law_792 (j_iadd hF dL_law_793 (j_sld hF hLS hL dL_law_794 (by omega) (?_))))))
  refine j_callVv hF (c_X7_active hP hGV hE (sx_rg _ _)) ms_X7_active mv_X7_active lk_RL_86 dL_law_795 hop rfl rfl rfl (by simp [Value.category]) ⟨⟨(Nat.le_of_ble_eq_true rfl), (Nat.le_of_ble_eq_true rfl)⟩, by omega, by omega⟩ (fun v1 X1 k1 n1 hp1 hE1 => ?_)
  obtain ⟨rfl, kap1, hP1, hF1, hk1, hk2, hk3⟩ := hp1
  have hkl1 := hP1.le
  obtain ⟨sn, lw_, rc, wt, wg, ls_, ac, fi, as_, hh, hMM⟩ := hM.keep hF1
  dsimp only at hMM
  refine j_aload_n hF dL_law_798 rfl (j_aload_n hF dL_law_799 rfl (j_iload_n hF dL_law_800 rfl (j_iconst hF dL_law_801 (j_iadd hF dL_law_802 (j_sld hF hLS hL dL_law_803 (by omega) (?_))))))
  refine j_callV hF (c_X8_active hMM hE (sx_rg _ _)) ms_X8_active mv_X8_active lk_RL_89 dL_law_804 hMM.1 rfl rfl rfl (by simp [Value.category]) ⟨⟨(Nat.le_of_ble_eq_true rfl), (Nat.le_of_ble_eq_true rfl)⟩, by omega, by omega⟩ (fun v2 X2 hp2 hE2 => ?_)
  obtain ⟨rfl, hMX⟩ := hp2
  obtain ⟨hM2, hFR⟩ := hMX.x
  refine j_same hF 944 dL_law_807 (by decide) ?_
  exact K _ _ kap1 _ _ (hP1.kr hFR) hM2 (by unfold sp_active; exact pi_rd hI) (by omega) (by omega) (by omega)

set_option maxRecDepth 100000 in
set_option maxHeartbeats 4000000 in
theorem lwc_frontier {φ : Fi} {nm : String} (hF : Fx φ cL_law 4 RL (some .boolean) nm 11 450 600000 7302250) {b L : Nat} {xs : Nat → Int32} (hLS : LwS φ b L xs) (hL : L ≤ 3072) {X : Hp} {tr kap kc ks : Nat} {ad : Nat → Nat} {r pf er : Int → Int} {sv i c : Int} (hi : 0 ≤ i ∧ i + 6 ≤ L) (hc : i = 6 * c) (hP : PP X tr kap c (r, pf, sv, er)) (hM : MMx X ad (r, pf, sv, er)) (hI : PI (r, pf, sv, er) c) (hk0 : 384 ≤ kap) (hkc : kc ≤ 131 + (kap - 384)) (hks : ks ≤ 256593 + 6 * (kap - 384)) (K : ∀ (X2 : Hp) (σ2 : St) (kap2 kc2 ks2 : Nat), PP X2 tr kap2 (c + 1) σ2 → MMx X2 ad σ2 → PI σ2 (c + 1) → 384 ≤ kap2 → kc2 ≤ 131 + (kap2 - 384) → ks2 ≤ 256593 + 6 * (kap2 - 384) → Jd φ X2 kc2 ks2 944 [some (.ref b), some (.ref tr), some (.ref (ad 0)), some (vi i)] []) : Jd φ X kc ks 812 [some (.ref b), some (.ref tr), some (.ref (ad 0)), some (vi i)] [] := by
  have hi5 : c ≤ 511 ∧ 0 ≤ c := by omega
  obtain ⟨⟨⟨hGV, hNC, hTL⟩, ⟨ho, hVN, h02, hIN⟩, ⟨hm, hmt, hTm, hvm⟩, ⟨hA, hT, hAP⟩, ⟨hRI, hQI, hvd, hvq⟩, hC⟩, hEc, hsv, -⟩ := id hI
  dsimp only at hGV hNC ho hVN h02 hm hmt hvm hA hT hAP hRI hQI hvd hC hEc hsv
  have hG := hGV.1
  have hE : EI er := fun j a b => by have := hEc j a b; omega
  have hVC : VC r := by unfold VC; unfold VN at hVN; omega
  have hkl := hP.le
  obtain ⟨olp, hop⟩ := hP.obj
  refine j_aload_n hF dL_law_812 rfl (j_aload_n hF dL_law_813 rfl (j_iload_n hF dL_law_814 rfl (j_iconst hF dL_law_815 (j_iadd hF dL_law_816 (j_sld hF hLS hL dL_law_817 (by omega) (?_))))))
  refine j_aload_n hF dL_law_818 rfl (j_iload_n hF dL_law_819 rfl (j_iconst hF dL_law_820 (j_iadd hF dL_law_821 (j_sld hF hLS hL dL_law_822 (by omega) (j_callVv hF (c_X7_frontier hP hGV hE (by omega) hvd (sx_rg _ _) (sx_rg _ _)) ms_X7_frontier mv_X7_frontier lk_RL_90 dL_law_823 hop rfl rfl rfl (by simp [Value.category]) ⟨⟨(Nat.le_of_ble_eq_true rfl), (Nat.le_of_ble_eq_true rfl)⟩, by omega, by omega⟩ (fun v1 X1 k1 n1 hp1 hE1 => ?_))))))
  obtain ⟨rfl, kap1, hP1, hF1, hk1, hk2, hk3⟩ := hp1
  have hkl1 := hP1.le
  obtain ⟨sn, lw_, rc, wt, wg, ls_, ac, fi, as_, hh, hMM⟩ := hM.keep hF1
  dsimp only at hMM
  refine j_aload_n hF dL_law_826 rfl (j_aload_n hF dL_law_827 rfl (j_iload_n hF dL_law_828 rfl (j_iconst hF dL_law_829 (j_iadd hF dL_law_830 (j_sld hF hLS hL dL_law_831 (by omega) (?_))))))
  refine j_aload_n hF dL_law_832 rfl (j_iload_n hF dL_law_833 rfl (j_iconst hF dL_law_834 (j_iadd hF dL_law_835 (j_sld hF hLS hL dL_law_836 (by omega) (j_callV hF (c_X8_frontier hMM hG hE (sx_rg _ _) (sx_rg _ _)) ms_X8_frontier mv_X8_frontier lk_RL_93 dL_law_837 hMM.1 rfl rfl rfl (by simp [Value.category]) ⟨⟨(Nat.le_of_ble_eq_true rfl), (Nat.le_of_ble_eq_true rfl)⟩, by omega, by omega⟩ (fun v2 X2 hp2 hE2 => ?_))))))
  obtain ⟨rfl, hMX⟩ := hp2
  obtain ⟨hM2, hFR⟩ := hMX.x
  refine j_same hF 944 dL_law_840 (by decide) ?_
  exact K _ _ kap1 _ _ (hP1.kr hFR) hM2 (by unfold sp_frontier; exact pi_rd hI) (by omega) (by omega) (by omega)

set_option maxRecDepth 100000 in
set_option maxHeartbeats 4000000 in
theorem lwc_pending {φ : Fi} {nm : String} (hF : Fx φ cL_law 4 RL (some .boolean) nm 11 450 600000 7302250) {b L : Nat} {xs : Nat → Int32} (hLS : LwS φ b L xs) (hL : L ≤ 3072) {X : Hp} {tr kap kc ks : Nat} {ad : Nat → Nat} {r pf er : Int → Int} {sv i c : Int} (hi : 0 ≤ i ∧ i + 6 ≤ L) (hc : i = 6 * c) (hP : PP X tr kap c (r, pf, sv, er)) (hM : MMx X ad (r, pf, sv, er)) (hI : PI (r, pf, sv, er) c) (hk0 : 384 ≤ kap) (hkc : kc ≤ 131 + (kap - 384)) (hks : ks ≤ 256593 + 6 * (kap - 384)) (K : ∀ (X2 : Hp) (σ2 : St) (kap2 kc2 ks2 : Nat), PP X2 tr kap2 (c + 1) σ2 → MMx X2 ad σ2 → PI σ2 (c + 1) → 384 ≤ kap2 → kc2 ≤ 131 + (kap2 - 384) → ks2 ≤ 256593 + 6 * (kap2 - 384) → Jd φ X2 kc2 ks2 944 [some (.ref b), some (.ref tr), some (.ref (ad 0)), some (vi i)] []) : Jd φ X kc ks 845 [some (.ref b), some (.ref tr), some (.ref (ad 0)), some (vi i)] [] := by
  have hi5 : c ≤ 511 ∧ 0 ≤ c := by omega
  obtain ⟨⟨⟨hGV, hNC, hTL⟩, ⟨ho, hVN, h02, hIN⟩, ⟨hm, hmt, hTm, hvm⟩, ⟨hA, hT, hAP⟩, ⟨hRI, hQI, hvd, hvq⟩, hC⟩, hEc, hsv, -⟩ := id hI
  dsimp only at hGV hNC ho hVN h02 hm hmt hvm hA hT hAP hRI hQI hvd hC hEc hsv
  have hG := hGV.1
  have hE : EI er := fun j a b => by have := hEc j a b; omega
  have hVC : VC r := by unfold VC; unfold VN at hVN; omega
  have hkl := hP.le
  obtain ⟨olp, hop⟩ := hP.obj
  refine j_aload_n hF dL_law_845 rfl (j_aload_n hF dL_law_846 rfl (j_iload_n hF dL_law_847 rfl (j_iconst hF dL_law_848 (j_iadd hF dL_law_849 (j_sld hF hLS hL dL_law_850 (by omega) (?_))))))
  refine j_callVv hF (c_X7_pending hP hGV hE (sx_rg _ _)) ms_X7_pending mv_X7_pending lk_RL_94 dL_law_851 hop rfl rfl rfl (by simp [Value.category]) ⟨⟨(Nat.le_of_ble_eq_true rfl), (Nat.le_of_ble_eq_true rfl)⟩, by omega, by omega⟩ (fun v1 X1 k1 n1 hp1 hE1 => ?_)
  obtain ⟨rfl, kap1, hP1, hF1, hk1, hk2, hk3⟩ := hp1
  have hkl1 := hP1.le
  obtain ⟨sn, lw_, rc, wt, wg, ls_, ac, fi, as_, hh, hMM⟩ := hM.keep hF1
  dsimp only at hMM
  refine j_aload_n hF dL_law_854 rfl (j_aload_n hF dL_law_855 rfl (j_iload_n hF dL_law_856 rfl (j_iconst hF dL_law_857 (j_iadd hF dL_law_858 (j_sld hF hLS hL dL_law_859 (by omega) (?_))))))
  refine j_callV hF (c_X8_pending hMM hE (sx_rg _ _)) ms_X8_pending mv_X8_pending lk_RL_97 dL_law_860 hMM.1 rfl rfl rfl (by simp [Value.category]) ⟨⟨(Nat.le_of_ble_eq_true rfl), (Nat.le_of_ble_eq_true rfl)⟩, by omega, by omega⟩ (fun v2 X2 hp2 hE2 => ?_)
  obtain ⟨rfl, hMX⟩ := hp2
  obtain ⟨hM2, hFR⟩ := hMX.x
  refine j_same hF 944 dL_law_863 (by decide) ?_
  exact K _ _ kap1 _ _ (hP1.kr hFR) hM2 (by unfold sp_pending; exact pi_rd hI) (by omega) (by omega) (by omega)

set_option maxRecDepth 100000 in
set_option maxHeartbeats 4000000 in
theorem lwc_delivered {φ : Fi} {nm : String} (hF : Fx φ cL_law 4 RL (some .boolean) nm 11 450 600000 7302250) {b L : Nat} {xs : Nat → Int32} (hLS : LwS φ b L xs) (hL : L ≤ 3072) {X : Hp} {tr kap kc ks : Nat} {ad : Nat → Nat} {r pf er : Int → Int} {sv i c : Int} (hi : 0 ≤ i ∧ i + 6 ≤ L) (hc : i = 6 * c) (hP : PP X tr kap c (r, pf, sv, er)) (hM : MMx X ad (r, pf, sv, er)) (hI : PI (r, pf, sv, er) c) (hk0 : 384 ≤ kap) (hkc : kc ≤ 131 + (kap - 384)) (hks : ks ≤ 256593 + 6 * (kap - 384)) (K : ∀ (X2 : Hp) (σ2 : St) (kap2 kc2 ks2 : Nat), PP X2 tr kap2 (c + 1) σ2 → MMx X2 ad σ2 → PI σ2 (c + 1) → 384 ≤ kap2 → kc2 ≤ 131 + (kap2 - 384) → ks2 ≤ 256593 + 6 * (kap2 - 384) → Jd φ X2 kc2 ks2 944 [some (.ref b), some (.ref tr), some (.ref (ad 0)), some (vi i)] []) : Jd φ X kc ks 868 [some (.ref b), some (.ref tr), some (.ref (ad 0)), some (vi i)] [] := by
  have hi5 : c ≤ 511 ∧ 0 ≤ c := by omega
  obtain ⟨⟨⟨hGV, hNC, hTL⟩, ⟨ho, hVN, h02, hIN⟩, ⟨hm, hmt, hTm, hvm⟩, ⟨hA, hT, hAP⟩, ⟨hRI, hQI, hvd, hvq⟩, hC⟩, hEc, hsv, -⟩ := id hI
  dsimp only at hGV hNC ho hVN h02 hm hmt hvm hA hT hAP hRI hQI hvd hC hEc hsv
  have hG := hGV.1
  have hE : EI er := fun j a b => by have := hEc j a b; omega
  have hVC : VC r := by unfold VC; unfold VN at hVN; omega
  have hkl := hP.le
  obtain ⟨olp, hop⟩ := hP.obj
  refine j_aload_n hF dL_law_868 rfl (j_callVv hF (c_X7_delivered hP hGV hE ) ms_X7_delivered mv_X7_delivered lk_RL_98 dL_law_869 hop rfl rfl rfl (by simp [Value.category]) ⟨⟨(Nat.le_of_ble_eq_true rfl), (Nat.le_of_ble_eq_true rfl)⟩, by omega, by omega⟩ (fun v1 X1 k1 n1 hp1 hE1 => ?_))
  obtain ⟨rfl, kap1, hP1, hF1, hk1, hk2, hk3⟩ := hp1
  have hkl1 := hP1.le
  obtain ⟨sn, lw_, rc, wt, wg, ls_, ac, fi, as_, hh, hMM⟩ := hM.keep hF1
  dsimp only at hMM
  refine j_aload_n hF dL_law_872 rfl (j_callV hF (c_X8_delivered hMM ) ms_X8_delivered mv_X8_delivered lk_RL_102 dL_law_873 hMM.1 rfl rfl rfl (by simp [Value.category]) ⟨⟨(Nat.le_of_ble_eq_true rfl), (Nat.le_of_ble_eq_true rfl)⟩, by omega, by omega⟩ (fun v2 X2 hp2 hE2 => ?_))
  obtain ⟨rfl, hMX⟩ := hp2
  obtain ⟨hM2, hFR⟩ := hMX.x
  refine j_same hF 944 dL_law_876 (by decide) ?_
  exact K _ _ kap1 _ _ (hP1.kr hFR) hM2 (hI.mono (by omega)) (by omega) (by omega) (by omega)

set_option maxRecDepth 100000 in
set_option maxHeartbeats 4000000 in
theorem lwc_violations {φ : Fi} {nm : String} (hF : Fx φ cL_law 4 RL (some .boolean) nm 11 450 600000 7302250) {b L : Nat} {xs : Nat → Int32} (hLS : LwS φ b L xs) (hL : L ≤ 3072) {X : Hp} {tr kap kc ks : Nat} {ad : Nat → Nat} {r pf er : Int → Int} {sv i c : Int} (hi : 0 ≤ i ∧ i + 6 ≤ L) (hc : i = 6 * c) (hP : PP X tr kap c (r, pf, sv, er)) (hM : MMx X ad (r, pf, sv, er)) (hI : PI (r, pf, sv, er) c) (hk0 : 384 ≤ kap) (hkc : kc ≤ 131 + (kap - 384)) (hks : ks ≤ 256593 + 6 * (kap - 384)) (K : ∀ (X2 : Hp) (σ2 : St) (kap2 kc2 ks2 : Nat), PP X2 tr kap2 (c + 1) σ2 → MMx X2 ad σ2 → PI σ2 (c + 1) → 384 ≤ kap2 → kc2 ≤ 131 + (kap2 - 384) → ks2 ≤ 256593 + 6 * (kap2 - 384) → Jd φ X2 kc2 ks2 944 [some (.ref b), some (.ref tr), some (.ref (ad 0)), some (vi i)] []) : Jd φ X kc ks 881 [some (.ref b), some (.ref tr), some (.ref (ad 0)), some (vi i)] [] := by
  have hi5 : c ≤ 511 ∧ 0 ≤ c := by omega
  obtain ⟨⟨⟨hGV, hNC, hTL⟩, ⟨ho, hVN, h02, hIN⟩, ⟨hm, hmt, hTm, hvm⟩, ⟨hA, hT, hAP⟩, ⟨hRI, hQI, hvd, hvq⟩, hC⟩, hEc, hsv, -⟩ := id hI
  dsimp only at hGV hNC ho hVN h02 hm hmt hvm hA hT hAP hRI hQI hvd hC hEc hsv
  have hG := hGV.1
  have hE : EI er := fun j a b => by have := hEc j a b; omega
  have hVC : VC r := by unfold VC; unfold VN at hVN; omega
  have hkl := hP.le
  obtain ⟨olp, hop⟩ := hP.obj
  refine j_aload_n hF dL_law_881 rfl (j_callVv hF (c_X7_violations hP hGV hE ) ms_X7_violations mv_X7_violations lk_RL_103 dL_law_882 hop rfl rfl rfl (by simp [Value.category]) ⟨⟨(Nat.le_of_ble_eq_true rfl), (Nat.le_of_ble_eq_true rfl)⟩, by omega, by omega⟩ (fun v1 X1 k1 n1 hp1 hE1 => ?_))
  obtain ⟨rfl, kap1, hP1, hF1, hk1, hk2, hk3⟩ := hp1
  have hkl1 := hP1.le
  obtain ⟨sn, lw_, rc, wt, wg, ls_, ac, fi, as_, hh, hMM⟩ := hM.keep hF1
  dsimp only at hMM
  refine j_aload_n hF dL_law_885 rfl (j_callV hF (c_X8_violations hMM ) ms_X8_violations mv_X8_violations lk_RL_106 dL_law_886 hMM.1 rfl rfl rfl (by simp [Value.category]) ⟨⟨(Nat.le_of_ble_eq_true rfl), (Nat.le_of_ble_eq_true rfl)⟩, by omega, by omega⟩ (fun v2 X2 hp2 hE2 => ?_))
  obtain ⟨rfl, hMX⟩ := hp2
  obtain ⟨hM2, hFR⟩ := hMX.x
  refine j_same hF 944 dL_law_889 (by decide) ?_
  exact K _ _ kap1 _ _ (hP1.kr hFR) hM2 (hI.mono (by omega)) (by omega) (by omega) (by omega)

set_option maxRecDepth 100000 in
set_option maxHeartbeats 4000000 in
theorem lwc_undo {φ : Fi} {nm : String} (hF : Fx φ cL_law 4 RL (some .boolean) nm 11 450 600000 7302250) {b L : Nat} {xs : Nat → Int32} (hLS : LwS φ b L xs) (hL : L ≤ 3072) {X : Hp} {tr kap kc ks : Nat} {ad : Nat → Nat} {r pf er : Int → Int} {sv i c : Int} (hi : 0 ≤ i ∧ i + 6 ≤ L) (hc : i = 6 * c) (hP : PP X tr kap c (r, pf, sv, er)) (hM : MMx X ad (r, pf, sv, er)) (hI : PI (r, pf, sv, er) c) (hk0 : 384 ≤ kap) (hkc : kc ≤ 131 + (kap - 384)) (hks : ks ≤ 256593 + 6 * (kap - 384)) (K : ∀ (X2 : Hp) (σ2 : St) (kap2 kc2 ks2 : Nat), PP X2 tr kap2 (c + 1) σ2 → MMx X2 ad σ2 → PI σ2 (c + 1) → 384 ≤ kap2 → kc2 ≤ 131 + (kap2 - 384) → ks2 ≤ 256593 + 6 * (kap2 - 384) → Jd φ X2 kc2 ks2 944 [some (.ref b), some (.ref tr), some (.ref (ad 0)), some (vi i)] []) : Jd φ X kc ks 894 [some (.ref b), some (.ref tr), some (.ref (ad 0)), some (vi i)] [] := by
  have hi5 : c ≤ 511 ∧ 0 ≤ c := by omega
  obtain ⟨⟨⟨hGV, hNC, hTL⟩, ⟨ho, hVN, h02, hIN⟩, ⟨hm, hmt, hTm, hvm⟩, ⟨hA, hT, hAP⟩, ⟨hRI, hQI, hvd, hvq⟩, hC⟩, hEc, hsv, -⟩ := id hI
  dsimp only at hGV hNC ho hVN h02 hm hmt hvm hA hT hAP hRI hQI hvd hC hEc hsv
  have hG := hGV.1
  have hE : EI er := fun j a b => by have := hEc j a b; omega
  have hVC : VC r := by unfold VC; unfold VN at hVN; omega
  have hkl := hP.le
  obtain ⟨olp, hop⟩ := hP.obj
  refine j_aload_n hF dL_law_894 rfl (j_callVv hF (c_X7_undo hP hGV hE hsv hC hI.undo_h) ms_X7_undo mv_X7_undo lk_RL_107 dL_law_895 hop rfl rfl rfl (by simp [Value.category]) ⟨⟨(Nat.le_of_ble_eq_true rfl), (Nat.le_of_ble_eq_true rfl)⟩, by omega, by omega⟩ (fun v1 X1 k1 n1 hp1 hE1 => ?_))
  obtain ⟨rfl, kap1, hP1, hF1, hk1, hk2, hk3⟩ := hp1
  have hkl1 := hP1.le
  obtain ⟨sn, lw_, rc, wt, wg, ls_, ac, fi, as_, hh, hMM⟩ := hM.keep hF1
  dsimp only at hMM
  refine j_aload_n hF dL_law_898 rfl (j_callV hF (c_X8_undo hMM hsv hE) ms_X8_undo mv_X8_undo lk_RL_110 dL_law_899 hMM.1 rfl rfl rfl (by simp [Value.category]) ⟨⟨(Nat.le_of_ble_eq_true rfl), (Nat.le_of_ble_eq_true rfl)⟩, by omega, by omega⟩ (fun v2 X2 hp2 hE2 => ?_))
  obtain ⟨rfl, hMG⟩ := hp2
  have e1 : (if sv = 0 then -5 else sv - 1) = (sp_undo (r, pf, sv, er)).1 := by
    unfold sp_undo
    by_cases q : sv = 0
    · rw [if_pos q, if_pos (show (r, pf, sv, er).2.2.1 = 0 from q)]; rfl
    · rw [if_neg q, if_neg (show ¬ (r, pf, sv, er).2.2.1 = 0 from q)]
  have hMX : MX X1 X2 ad (sp_undo (r, pf, sv, er)).2 := by
    unfold sp_undo
    by_cases q : sv = 0
    · rw [if_pos (show (r, pf, sv, er).2.2.1 = 0 from q)]
      rw [if_pos q, if_pos q, if_pos q] at hMG
      exact MX.of hMG
    · rw [if_neg (show ¬ (r, pf, sv, er).2.2.1 = 0 from q)]
      rw [if_neg q, if_neg q, if_neg q] at hMG
      exact MX.of hMG
  rw [e1]
  obtain ⟨hM2, hFR⟩ := hMX.x
  refine j_same hF 944 dL_law_902 (by decide) ?_
  exact K _ _ kap1 _ _ (hP1.kr hFR) hM2 hI.undo (by omega) (by omega) (by omega)

set_option maxRecDepth 100000 in
set_option maxHeartbeats 4000000 in
theorem lwc_errorCount {φ : Fi} {nm : String} (hF : Fx φ cL_law 4 RL (some .boolean) nm 11 450 600000 7302250) {b L : Nat} {xs : Nat → Int32} (hLS : LwS φ b L xs) (hL : L ≤ 3072) {X : Hp} {tr kap kc ks : Nat} {ad : Nat → Nat} {r pf er : Int → Int} {sv i c : Int} (hi : 0 ≤ i ∧ i + 6 ≤ L) (hc : i = 6 * c) (hP : PP X tr kap c (r, pf, sv, er)) (hM : MMx X ad (r, pf, sv, er)) (hI : PI (r, pf, sv, er) c) (hk0 : 384 ≤ kap) (hkc : kc ≤ 131 + (kap - 384)) (hks : ks ≤ 256593 + 6 * (kap - 384)) (K : ∀ (X2 : Hp) (σ2 : St) (kap2 kc2 ks2 : Nat), PP X2 tr kap2 (c + 1) σ2 → MMx X2 ad σ2 → PI σ2 (c + 1) → 384 ≤ kap2 → kc2 ≤ 131 + (kap2 - 384) → ks2 ≤ 256593 + 6 * (kap2 - 384) → Jd φ X2 kc2 ks2 944 [some (.ref b), some (.ref tr), some (.ref (ad 0)), some (vi i)] []) : Jd φ X kc ks 907 [some (.ref b), some (.ref tr), some (.ref (ad 0)), some (vi i)] [] := by
  have hi5 : c ≤ 511 ∧ 0 ≤ c := by omega
  obtain ⟨⟨⟨hGV, hNC, hTL⟩, ⟨ho, hVN, h02, hIN⟩, ⟨hm, hmt, hTm, hvm⟩, ⟨hA, hT, hAP⟩, ⟨hRI, hQI, hvd, hvq⟩, hC⟩, hEc, hsv, -⟩ := id hI
  dsimp only at hGV hNC ho hVN h02 hm hmt hvm hA hT hAP hRI hQI hvd hC hEc hsv
  have hG := hGV.1
  have hE : EI er := fun j a b => by have := hEc j a b; omega
  have hVC : VC r := by unfold VC; unfold VN at hVN; omega
  have hkl := hP.le
  obtain ⟨olp, hop⟩ := hP.obj
  refine j_aload_n hF dL_law_907 rfl (j_aload_n hF dL_law_908 rfl (j_iload_n hF dL_law_909 rfl (j_iconst hF dL_law_910 (j_iadd hF dL_law_911 (j_sld hF hLS hL dL_law_912 (by omega) (?_))))))
  refine j_callVv hF (c_X7_errorCount hP hGV hE (sx_rg _ _)) ms_X7_errorCount mv_X7_errorCount lk_RL_111 dL_law_913 hop rfl rfl rfl (by simp [Value.category]) ⟨⟨(Nat.le_of_ble_eq_true rfl), (Nat.le_of_ble_eq_true rfl)⟩, by omega, by omega⟩ (fun v1 X1 k1 n1 hp1 hE1 => ?_)
  obtain ⟨rfl, kap1, hP1, hF1, hk1, hk2, hk3⟩ := hp1
  have hkl1 := hP1.le
  obtain ⟨sn, lw_, rc, wt, wg, ls_, ac, fi, as_, hh, hMM⟩ := hM.keep hF1
  dsimp only at hMM
  refine j_aload_n hF dL_law_916 rfl (j_aload_n hF dL_law_917 rfl (j_iload_n hF dL_law_918 rfl (j_iconst hF dL_law_919 (j_iadd hF dL_law_920 (j_sld hF hLS hL dL_law_921 (by omega) (?_))))))
  refine j_callV hF (c_X8_errorCount hMM hE (sx_rg _ _)) ms_X8_errorCount mv_X8_errorCount lk_RL_114 dL_law_922 hMM.1 rfl rfl rfl (by simp [Value.category]) ⟨⟨(Nat.le_of_ble_eq_true rfl), (Nat.le_of_ble_eq_true rfl)⟩, by omega, by omega⟩ (fun v2 X2 hp2 hE2 => ?_)
  obtain ⟨rfl, hMX⟩ := hp2
  obtain ⟨hM2, hFR⟩ := hMX.x
  refine j_same hF 944 dL_law_925 (by decide) ?_
  exact K _ _ kap1 _ _ (hP1.kr hFR) hM2 (by unfold sp_errorCount; exact pi_rd hI) (by omega) (by omega) (by omega)

set_option maxRecDepth 100000 in
set_option maxHeartbeats 4000000 in
theorem lwc_digest {φ : Fi} {nm : String} (hF : Fx φ cL_law 4 RL (some .boolean) nm 11 450 600000 7302250) {b L : Nat} {xs : Nat → Int32} (hLS : LwS φ b L xs) (hL : L ≤ 3072) {X : Hp} {tr kap kc ks : Nat} {ad : Nat → Nat} {r pf er : Int → Int} {sv i c : Int} (hi : 0 ≤ i ∧ i + 6 ≤ L) (hc : i = 6 * c) (hP : PP X tr kap c (r, pf, sv, er)) (hM : MMx X ad (r, pf, sv, er)) (hI : PI (r, pf, sv, er) c) (hk0 : 384 ≤ kap) (hkc : kc ≤ 131 + (kap - 384)) (hks : ks ≤ 256593 + 6 * (kap - 384)) (K : ∀ (X2 : Hp) (σ2 : St) (kap2 kc2 ks2 : Nat), PP X2 tr kap2 (c + 1) σ2 → MMx X2 ad σ2 → PI σ2 (c + 1) → 384 ≤ kap2 → kc2 ≤ 131 + (kap2 - 384) → ks2 ≤ 256593 + 6 * (kap2 - 384) → Jd φ X2 kc2 ks2 944 [some (.ref b), some (.ref tr), some (.ref (ad 0)), some (vi i)] []) : Jd φ X kc ks 930 [some (.ref b), some (.ref tr), some (.ref (ad 0)), some (vi i)] [] := by
  have hi5 : c ≤ 511 ∧ 0 ≤ c := by omega
  obtain ⟨⟨⟨hGV, hNC, hTL⟩, ⟨ho, hVN, h02, hIN⟩, ⟨hm, hmt, hTm, hvm⟩, ⟨hA, hT, hAP⟩, ⟨hRI, hQI, hvd, hvq⟩, hC⟩, hEc, hsv, -⟩ := id hI
  dsimp only at hGV hNC ho hVN h02 hm hmt hvm hA hT hAP hRI hQI hvd hC hEc hsv
  have hG := hGV.1
  have hE : EI er := fun j a b => by have := hEc j a b; omega
  have hVC : VC r := by unfold VC; unfold VN at hVN; omega
  have hkl := hP.le
  obtain ⟨olp, hop⟩ := hP.obj
  refine j_aload_n hF dL_law_930 rfl (j_callVv hF (c_X7_digest hP hGV hE (by omega) hm hA hT hAP hvd) ms_X7_digest mv_X7_digest lk_RL_115 dL_law_931 hop rfl rfl rfl (by simp [Value.category]) ⟨⟨(Nat.le_of_ble_eq_true rfl), (Nat.le_of_ble_eq_true rfl)⟩, by omega, by omega⟩ (fun v1 X1 k1 n1 hp1 hE1 => ?_))
  obtain ⟨rfl, kap1, hP1, hF1, hk1, hk2, hk3⟩ := hp1
  have hkl1 := hP1.le
  obtain ⟨sn, lw_, rc, wt, wg, ls_, ac, fi, as_, hh, hMM⟩ := hM.keep hF1
  dsimp only at hMM
  refine j_aload_n hF dL_law_934 rfl (j_callV hF (c_X8_digest hMM hG hm hA hT) ms_X8_digest mv_X8_digest lk_RL_119 dL_law_935 hMM.1 rfl rfl rfl (by simp [Value.category]) ⟨⟨(Nat.le_of_ble_eq_true rfl), (Nat.le_of_ble_eq_true rfl)⟩, by omega, by omega⟩ (fun v2 X2 hp2 hE2 => ?_))
  obtain ⟨rfl, hMX⟩ := hp2
  obtain ⟨hM2, hFR⟩ := hMX.x
  refine j_lcmp0 hF dL_law_938 (j_if_eq hF 944 dL_law_939 (by decide) (by omega) (fun _ => ?_) (fun h => absurd rfl h))
  exact K _ _ kap1 _ _ (hP1.kr hFR) hM2 (hI.mono (by omega)) (by omega) (by omega) (by omega)

