/-! ===== the law: its calls, one row each (printed by wip/gen/law.py) ===== -/
set_option maxHeartbeats 1000000 in
theorem lw_c0 {O : bO} {Q : bR → bG → Prop} {f : bF} {n s t : Nat} {σ : SS} (hX : XR f σ) (hM : MP f σ) (hJ : JK σ) (h46 : ∃ g : Nat → Int64, f 46 = some (.inl (2, 1, .inr (.inl g)))) (hN : oN O ≤ 3072) (ht : t + 6 ≤ oN O) (kk : lw_go O Q n s t) : bV O mL_law 160 184 [(4, .int (nI t)), (3, .ref 46), (2, .ref 50), (1, .ref 32), (0, .ref 0)] [] (f, n, s) Q := by
  obtain ⟨bs, tl, mc, md, ip, dc, dr, ac, an, hs, sd, df, dfn, td, tr, ft, pl⟩ := σ
  have hx := x_feed (O := O) (d := 159) (n := n) (s := s) (a := oX O (t + 1)) (b := oX O (t + 2)) (c := oX O (t + 3)) (d_ := oX O (t + 4)) (e := oX O (t + 5)) hX (JJ_JX hJ.1) (by decide)
  have hm := fun (f9 : bF) (n9 s9 : Nat) (h9 : MP f9 (bs, tl, mc, md, ip, dc, dr, ac, an, hs, sd, df, dfn, td, tr, ft, pl)) => m_feed (O := O) (d := 159) (n := n9) (s := s9) (a := oX O (t + 1)) (b := oX O (t + 2)) (c := oX O (t + 3)) (d9 := oX O (t + 4)) (e := oX O (t + 5)) h9 hJ.1 (by decide)
  have hj := j_feed (a := oX O (t + 1)) (b := oX O (t + 2)) (c := oX O (t + 3)) (d9 := oX O (t + 4)) (e := oX O (t + 5)) hJ
  generalize s_feed (bs, tl, mc, md, ip, dc, dr, ac, an, hs, sd, df, dfn, td, tr, ft, pl) (oX O (t + 1)) (oX O (t + 2)) (oX O (t + 3)) (oX O (t + 4)) (oX O (t + 5)) = R at hx hm hj
  generalize (bs, tl, mc, md, ip, dc, dr, ac, an, hs, sd, df, dfn, td, tr, ft, pl) = σ at hX hM hJ hm
  refine r_aload_n (n := 1) (i := 1) 3 rfl rfl dL_law_184 ?_
  refine r_aload_n (n := 0) (i := 0) 4 rfl rfl dL_law_185 ?_
  refine r_iload (i := 4) 0 rfl dL_law_186 ?_
  refine r_iconst (v := 1) (by decide) dL_law_188 ?_
  refine r_iaddE (v := nI (t + 1)) (lw_ad (by decide +kernel)) dL_law_189 ?_
  refine r_sldN (t := t + 1) (by omega) hN dL_law_190 ?_
  refine r_aload_n (n := 0) (i := 0) 4 rfl rfl dL_law_191 ?_
  refine r_iload (i := 4) 0 rfl dL_law_192 ?_
  refine r_iconst (v := 2) (by decide) dL_law_194 ?_
  refine r_iaddE (v := nI (t + 2)) (lw_ad (by decide +kernel)) dL_law_195 ?_
  refine r_sldN (t := t + 2) (by omega) hN dL_law_196 ?_
  refine r_aload_n (n := 0) (i := 0) 4 rfl rfl dL_law_197 ?_
  refine r_iload (i := 4) 0 rfl dL_law_198 ?_
  refine r_iconst (v := 3) (by decide) dL_law_200 ?_
  refine r_iaddE (v := nI (t + 3)) (lw_ad (by decide +kernel)) dL_law_201 ?_
  refine r_sldN (t := t + 3) (by omega) hN dL_law_202 ?_
  refine r_aload_n (n := 0) (i := 0) 4 rfl rfl dL_law_203 ?_
  refine r_iload (i := 4) 0 rfl dL_law_204 ?_
  refine r_iconst (v := 4) (by decide) dL_law_206 ?_
  refine r_iaddE (v := nI (t + 4)) (lw_ad (by decide +kernel)) dL_law_207 ?_
  refine r_sldN (t := t + 4) (by omega) hN dL_law_208 ?_
  refine r_aload_n (n := 0) (i := 0) 4 rfl rfl dL_law_209 ?_
  refine r_iload (i := 4) 0 rfl dL_law_210 ?_
  refine r_iconst (v := 5) (by decide) dL_law_212 ?_
  refine r_iaddE (v := nI (t + 5)) (lw_ad (by decide +kernel)) dL_law_213 ?_
  refine r_sldN (t := t + 5) (by omega) hN dL_law_214 ?_
  refine p_callV (As := [.int (oX O (t + 1)), .int (oX O (t + 2)), .int (oX O (t + 3)), .int (oX O (t + 4)), .int (oX O (t + 5))]) (rest := []) hx rfl lkL_19 imX7_feed seX7_feed rfl hX.1 rfl rfl (by decide) (Nat.le_of_ble_eq_true rfl) dL_law_215 (fun v9 G9 h9 => ?_) (fun q9 G9 h9 => absurd h9 pX_nx)
  obtain ⟨f9, n9, s9⟩ := G9
  obtain ⟨e0, hX9, e9, hn9, hs9⟩ := h9
  cases e0
  have hn9 : n9 ≤ n + 0 := hn9
  have hs9 : s9 ≤ s + 0 := hs9
  have hM9 : MP f9 σ := MP_fr hM hJ.1 (fun q hq => e9 q (by omega))
  obtain ⟨fs50, h50⟩ := MP_50 hM9
  show bV O mL_law 160 218 [(4, .int (nI t)), (3, .ref 46), (2, .ref 50), (1, .ref 32), (0, .ref 0)] [.int R.1] (f9, n9, s9) Q
  refine r_aload_n (n := 2) (i := 2) 2 rfl rfl dL_law_218 ?_
  refine r_aload_n (n := 0) (i := 0) 4 rfl rfl dL_law_219 ?_
  refine r_iload (i := 4) 0 rfl dL_law_220 ?_
  refine r_iconst (v := 1) (by decide) dL_law_222 ?_
  refine r_iaddE (v := nI (t + 1)) (lw_ad (by decide +kernel)) dL_law_223 ?_
  refine r_sldN (t := t + 1) (by omega) hN dL_law_224 ?_
  refine r_aload_n (n := 0) (i := 0) 4 rfl rfl dL_law_225 ?_
  refine r_iload (i := 4) 0 rfl dL_law_226 ?_
  refine r_iconst (v := 2) (by decide) dL_law_228 ?_
  refine r_iaddE (v := nI (t + 2)) (lw_ad (by decide +kernel)) dL_law_229 ?_
  refine r_sldN (t := t + 2) (by omega) hN dL_law_230 ?_
  refine r_aload_n (n := 0) (i := 0) 4 rfl rfl dL_law_231 ?_
  refine r_iload (i := 4) 0 rfl dL_law_232 ?_
  refine r_iconst (v := 3) (by decide) dL_law_234 ?_
  refine r_iaddE (v := nI (t + 3)) (lw_ad (by decide +kernel)) dL_law_235 ?_
  refine r_sldN (t := t + 3) (by omega) hN dL_law_236 ?_
  refine r_aload_n (n := 0) (i := 0) 4 rfl rfl dL_law_237 ?_
  refine r_iload (i := 4) 0 rfl dL_law_238 ?_
  refine r_iconst (v := 4) (by decide) dL_law_240 ?_
  refine r_iaddE (v := nI (t + 4)) (lw_ad (by decide +kernel)) dL_law_241 ?_
  refine r_sldN (t := t + 4) (by omega) hN dL_law_242 ?_
  refine r_aload_n (n := 0) (i := 0) 4 rfl rfl dL_law_243 ?_
  refine r_iload (i := 4) 0 rfl dL_law_244 ?_
  refine r_iconst (v := 5) (by decide) dL_law_246 ?_
  refine r_iaddE (v := nI (t + 5)) (lw_ad (by decide +kernel)) dL_law_247 ?_
  refine r_sldN (t := t + 5) (by omega) hN dL_law_248 ?_
  refine p_callV (As := [.int (oX O (t + 1)), .int (oX O (t + 2)), .int (oX O (t + 3)), .int (oX O (t + 4)), .int (oX O (t + 5))]) (rest := [.int R.1]) (hm f9 n9 s9 hM9) rfl lkL_23 imX11_feed seX11_feed rfl h50 rfl rfl (by decide) (Nat.le_of_ble_eq_true rfl) dL_law_249 (fun v8 G8 h8 => ?_) (fun q8 G8 h8 => absurd h8 pM_nx)
  obtain ⟨f8, n8, s8⟩ := G8
  obtain ⟨e0, hM8, e8, hn8, hs8⟩ := h8
  cases e0
  have hn8 : n8 ≤ n9 + 0 := hn8
  have hs8 : s8 ≤ s9 + 0 := hs8
  show bV O mL_law 160 252 [(4, .int (nI t)), (3, .ref 46), (2, .ref 50), (1, .ref 32), (0, .ref 0)] [.int R.1, .int R.1] (f8, n8, s8) Q
  refine r_icmp_eq (tgt := 1291) (by decide) dL_law_252 (fun _ => ?_) (fun h => absurd rfl h)
  obtain ⟨g, h46⟩ := h46
  exact kk f8 n8 s8 R.2 (XR_fr hX9 hj.1 (fun q hq => e8 q (by omega))) hM8 hj ⟨g, (e8 46 (by omega)).trans ((e9 46 (by omega)).trans h46)⟩ (by omega) (by omega)
set_option maxHeartbeats 1000000 in
theorem lw_c1 {O : bO} {Q : bR → bG → Prop} {f : bF} {n s t : Nat} {σ : SS} (hX : XR f σ) (hM : MP f σ) (hJ : JK σ) (h46 : ∃ g : Nat → Int64, f 46 = some (.inl (2, 1, .inr (.inl g)))) (hN : oN O ≤ 3072) (ht : t + 6 ≤ oN O) (kk : lw_go O Q n s t) : bV O mL_law 160 257 [(4, .int (nI t)), (3, .ref 46), (2, .ref 50), (1, .ref 32), (0, .ref 0)] [] (f, n, s) Q := by
  obtain ⟨bs, tl, mc, md, ip, dc, dr, ac, an, hs, sd, df, dfn, td, tr, ft, pl⟩ := σ
  obtain ⟨tv, hx⟩ := x_model (O := O) (d := 159) (n := n) (s := s) (xn := oX O (t + 1)) hX (JJ_JX hJ.1) (by decide)
  have hm := fun (f9 : bF) (n9 s9 : Nat) (h9 : MP f9 (bs, tl, mc, md, ip, dc, dr, ac, an, hs, sd, df, dfn, td, tr, ft, pl)) => m_model (O := O) (d := 159) (n := n9) (s := s9) (xn := oX O (t + 1)) (tv := tv) h9 hJ.1 (by decide)
  have hj := j_model (xn := oX O (t + 1)) (tv := tv) hJ
  generalize s_model (bs, tl, mc, md, ip, dc, dr, ac, an, hs, sd, df, dfn, td, tr, ft, pl) (oX O (t + 1)) tv = R at hx hm hj
  generalize (bs, tl, mc, md, ip, dc, dr, ac, an, hs, sd, df, dfn, td, tr, ft, pl) = σ at hX hM hJ hm
  refine r_aload_n (n := 1) (i := 1) 3 rfl rfl dL_law_257 ?_
  refine r_aload_n (n := 0) (i := 0) 4 rfl rfl dL_law_258 ?_
  refine r_iload (i := 4) 0 rfl dL_law_259 ?_
  refine r_iconst (v := 1) (by decide) dL_law_261 ?_
  refine r_iaddE (v := nI (t + 1)) (lw_ad (by decide +kernel)) dL_law_262 ?_
  refine r_sldN (t := t + 1) (by omega) hN dL_law_263 ?_
  refine p_callV (As := [.int (oX O (t + 1))]) (rest := []) hx rfl lkL_24 imX7_model seX7_model rfl hX.1 rfl rfl (by decide) (Nat.le_of_ble_eq_true rfl) dL_law_264 (fun v9 G9 h9 => ?_) (fun q9 G9 h9 => absurd h9 pX_nx)
  obtain ⟨f9, n9, s9⟩ := G9
  obtain ⟨e0, hX9, e9, hn9, hs9⟩ := h9
  cases e0
  have hn9 : n9 ≤ n + 3 := hn9
  have hs9 : s9 ≤ s + 123 := hs9
  have hM9 : MP f9 σ := MP_fr hM hJ.1 (fun q hq => e9 q (by omega))
  obtain ⟨fs50, h50⟩ := MP_50 hM9
  show bV O mL_law 160 267 [(4, .int (nI t)), (3, .ref 46), (2, .ref 50), (1, .ref 32), (0, .ref 0)] [.int R.1] (f9, n9, s9) Q
  refine r_aload_n (n := 2) (i := 2) 2 rfl rfl dL_law_267 ?_
  refine r_aload_n (n := 0) (i := 0) 4 rfl rfl dL_law_268 ?_
  refine r_iload (i := 4) 0 rfl dL_law_269 ?_
  refine r_iconst (v := 1) (by decide) dL_law_271 ?_
  refine r_iaddE (v := nI (t + 1)) (lw_ad (by decide +kernel)) dL_law_272 ?_
  refine r_sldN (t := t + 1) (by omega) hN dL_law_273 ?_
  refine r_callVH (x := ⟨77, 99, 102, 26⟩) (G := (f9, n9, s9)) (As := [.int (oX O (t + 1))]) (rest := [.int R.1]) (hm f9 n9 s9 hM9) rfl lkL_27 imX11_model seX11_model rfl h50 rfl rfl (by decide) (Nat.le_of_ble_eq_true rfl) dL_law_274 (fun v8 G8 h8 => ?_) (fun q8 G8 h8 => absurd h8 pM_nx)
  obtain ⟨f8, n8, s8⟩ := G8
  obtain ⟨e0, hM8, e8, hn8, hs8⟩ := h8
  cases e0
  have hn8 : n8 ≤ n9 + 3 := hn8
  have hs8 : s8 ≤ s9 + 249 := hs8
  show bV O mL_law 160 277 [(4, .int (nI t)), (3, .ref 46), (2, .ref 50), (1, .ref 32), (0, .ref 0)] [.int R.1, .int R.1] (f8, n8, s8) Q
  refine r_icmp_eq (tgt := 1291) (by decide) dL_law_277 (fun _ => ?_) (fun h => absurd rfl h)
  obtain ⟨g, h46⟩ := h46
  exact kk f8 n8 s8 R.2 (XR_fr hX9 hj.1 (fun q hq => e8 q (by omega))) hM8 hj ⟨g, (e8 46 (by omega)).trans ((e9 46 (by omega)).trans h46)⟩ (by omega) (by omega)
set_option maxHeartbeats 1000000 in
theorem lw_c2 {O : bO} {Q : bR → bG → Prop} {f : bF} {n s t : Nat} {σ : SS} (hX : XR f σ) (hM : MP f σ) (hJ : JK σ) (h46 : ∃ g : Nat → Int64, f 46 = some (.inl (2, 1, .inr (.inl g)))) (hN : oN O ≤ 3072) (ht : t + 6 ≤ oN O) (kk : lw_go O Q n s t) : bV O mL_law 160 282 [(4, .int (nI t)), (3, .ref 46), (2, .ref 50), (1, .ref 32), (0, .ref 0)] [] (f, n, s) Q := by
  obtain ⟨bs, tl, mc, md, ip, dc, dr, ac, an, hs, sd, df, dfn, td, tr, ft, pl⟩ := σ
  have hx := x_fault (O := O) (d := 159) (n := n) (s := s)  hX (JJ_JX hJ.1) (by decide)
  have hm := fun (f9 : bF) (n9 s9 : Nat) (h9 : MP f9 (bs, tl, mc, md, ip, dc, dr, ac, an, hs, sd, df, dfn, td, tr, ft, pl)) => m_fault (O := O) (d := 159) (n := n9) (s := s9)  h9 hJ.1 (by decide)
  have hj := j_fault  hJ
  generalize s_fault (bs, tl, mc, md, ip, dc, dr, ac, an, hs, sd, df, dfn, td, tr, ft, pl)  = R at hx hm hj
  generalize (bs, tl, mc, md, ip, dc, dr, ac, an, hs, sd, df, dfn, td, tr, ft, pl) = σ at hX hM hJ hm
  refine r_aload_n (n := 1) (i := 1) 3 rfl rfl dL_law_282 ?_
  refine p_callV (As := []) (rest := []) hx rfl lkL_28 imX7_fault seX7_fault rfl hX.1 rfl rfl (by decide) (Nat.le_of_ble_eq_true rfl) dL_law_283 (fun v9 G9 h9 => ?_) (fun q9 G9 h9 => absurd h9 pX_nx)
  obtain ⟨f9, n9, s9⟩ := G9
  obtain ⟨e0, hX9, e9, hn9, hs9⟩ := h9
  cases e0
  have hn9 : n9 ≤ n + 0 := hn9
  have hs9 : s9 ≤ s + 0 := hs9
  have hM9 : MP f9 σ := MP_fr hM hJ.1 (fun q hq => e9 q (by omega))
  obtain ⟨fs50, h50⟩ := MP_50 hM9
  show bV O mL_law 160 286 [(4, .int (nI t)), (3, .ref 46), (2, .ref 50), (1, .ref 32), (0, .ref 0)] [.int R.1] (f9, n9, s9) Q
  refine r_aload_n (n := 2) (i := 2) 2 rfl rfl dL_law_286 ?_
  refine p_callV (As := []) (rest := [.int R.1]) (hm f9 n9 s9 hM9) rfl lkL_32 imX11_fault seX11_fault rfl h50 rfl rfl (by decide) (Nat.le_of_ble_eq_true rfl) dL_law_287 (fun v8 G8 h8 => ?_) (fun q8 G8 h8 => absurd h8 pM_nx)
  obtain ⟨f8, n8, s8⟩ := G8
  obtain ⟨e0, hM8, e8, hn8, hs8⟩ := h8
  cases e0
  have hn8 : n8 ≤ n9 + 0 := hn8
  have hs8 : s8 ≤ s9 + 0 := hs8
  show bV O mL_law 160 290 [(4, .int (nI t)), (3, .ref 46), (2, .ref 50), (1, .ref 32), (0, .ref 0)] [.int R.1, .int R.1] (f8, n8, s8) Q
  refine r_icmp_eq (tgt := 1291) (by decide) dL_law_290 (fun _ => ?_) (fun h => absurd rfl h)
  obtain ⟨g, h46⟩ := h46
  exact kk f8 n8 s8 R.2 (XR_fr hX9 hj.1 (fun q hq => e8 q (by omega))) hM8 hj ⟨g, (e8 46 (by omega)).trans ((e9 46 (by omega)).trans h46)⟩ (by omega) (by omega)
set_option maxHeartbeats 1000000 in
theorem lw_c3 {O : bO} {Q : bR → bG → Prop} {f : bF} {n s t : Nat} {σ : SS} (hX : XR f σ) (hM : MP f σ) (hJ : JK σ) (h46 : ∃ g : Nat → Int64, f 46 = some (.inl (2, 1, .inr (.inl g)))) (hN : oN O ≤ 3072) (ht : t + 6 ≤ oN O) (kk : lw_go O Q n s t) : bV O mL_law 160 295 [(4, .int (nI t)), (3, .ref 46), (2, .ref 50), (1, .ref 32), (0, .ref 0)] [] (f, n, s) Q := by
  obtain ⟨bs, tl, mc, md, ip, dc, dr, ac, an, hs, sd, df, dfn, td, tr, ft, pl⟩ := σ
  have hx := x_where (O := O) (d := 159) (n := n) (s := s)  hX (JJ_JX hJ.1) (by decide)
  have hm := fun (f9 : bF) (n9 s9 : Nat) (h9 : MP f9 (bs, tl, mc, md, ip, dc, dr, ac, an, hs, sd, df, dfn, td, tr, ft, pl)) => m_where (O := O) (d := 159) (n := n9) (s := s9)  h9 hJ.1 (by decide)
  have hj := j_where  hJ
  generalize s_where (bs, tl, mc, md, ip, dc, dr, ac, an, hs, sd, df, dfn, td, tr, ft, pl)  = R at hx hm hj
  generalize (bs, tl, mc, md, ip, dc, dr, ac, an, hs, sd, df, dfn, td, tr, ft, pl) = σ at hX hM hJ hm
  refine r_aload_n (n := 1) (i := 1) 3 rfl rfl dL_law_295 ?_
  refine p_callV (As := []) (rest := []) hx rfl lkL_33 imX7_where seX7_where rfl hX.1 rfl rfl (by decide) (Nat.le_of_ble_eq_true rfl) dL_law_296 (fun v9 G9 h9 => ?_) (fun q9 G9 h9 => absurd h9 pX_nx)
  obtain ⟨f9, n9, s9⟩ := G9
  obtain ⟨e0, hX9, e9, hn9, hs9⟩ := h9
  cases e0
  have hn9 : n9 ≤ n + 0 := hn9
  have hs9 : s9 ≤ s + 0 := hs9
  have hM9 : MP f9 σ := MP_fr hM hJ.1 (fun q hq => e9 q (by omega))
  obtain ⟨fs50, h50⟩ := MP_50 hM9
  show bV O mL_law 160 299 [(4, .int (nI t)), (3, .ref 46), (2, .ref 50), (1, .ref 32), (0, .ref 0)] [.int R.1] (f9, n9, s9) Q
  refine r_aload_n (n := 2) (i := 2) 2 rfl rfl dL_law_299 ?_
  refine p_callV (As := []) (rest := [.int R.1]) (hm f9 n9 s9 hM9) rfl lkL_36 imX11_where seX11_where rfl h50 rfl rfl (by decide) (Nat.le_of_ble_eq_true rfl) dL_law_300 (fun v8 G8 h8 => ?_) (fun q8 G8 h8 => absurd h8 pM_nx)
  obtain ⟨f8, n8, s8⟩ := G8
  obtain ⟨e0, hM8, e8, hn8, hs8⟩ := h8
  cases e0
  have hn8 : n8 ≤ n9 + 0 := hn8
  have hs8 : s8 ≤ s9 + 0 := hs8
  show bV O mL_law 160 303 [(4, .int (nI t)), (3, .ref 46), (2, .ref 50), (1, .ref 32), (0, .ref 0)] [.int R.1, .int R.1] (f8, n8, s8) Q
  refine r_icmp_eq (tgt := 1291) (by decide) dL_law_303 (fun _ => ?_) (fun h => absurd rfl h)
  obtain ⟨g, h46⟩ := h46
  exact kk f8 n8 s8 R.2 (XR_fr hX9 hj.1 (fun q hq => e8 q (by omega))) hM8 hj ⟨g, (e8 46 (by omega)).trans ((e9 46 (by omega)).trans h46)⟩ (by omega) (by omega)
set_option maxHeartbeats 1000000 in
theorem lw_c4 {O : bO} {Q : bR → bG → Prop} {f : bF} {n s t : Nat} {σ : SS} (hX : XR f σ) (hM : MP f σ) (hJ : JK σ) (h46 : ∃ g : Nat → Int64, f 46 = some (.inl (2, 1, .inr (.inl g)))) (hN : oN O ≤ 3072) (ht : t + 6 ≤ oN O) (kk : lw_go O Q n s t) : bV O mL_law 160 308 [(4, .int (nI t)), (3, .ref 46), (2, .ref 50), (1, .ref 32), (0, .ref 0)] [] (f, n, s) Q := by
  obtain ⟨bs, tl, mc, md, ip, dc, dr, ac, an, hs, sd, df, dfn, td, tr, ft, pl⟩ := σ
  have hx := x_parts (O := O) (d := 159) (n := n) (s := s) (x := oX O (t + 1)) hX (JJ_JX hJ.1) (by decide)
  have hm := fun (f9 : bF) (n9 s9 : Nat) (h9 : MP f9 (bs, tl, mc, md, ip, dc, dr, ac, an, hs, sd, df, dfn, td, tr, ft, pl)) => m_parts (O := O) (d := 159) (n := n9) (s := s9) (x := oX O (t + 1)) h9 hJ.1 (by decide)
  have hj := j_parts (x := oX O (t + 1)) hJ
  generalize s_parts (bs, tl, mc, md, ip, dc, dr, ac, an, hs, sd, df, dfn, td, tr, ft, pl) (oX O (t + 1)) = R at hx hm hj
  generalize (bs, tl, mc, md, ip, dc, dr, ac, an, hs, sd, df, dfn, td, tr, ft, pl) = σ at hX hM hJ hm
  refine r_aload_n (n := 1) (i := 1) 3 rfl rfl dL_law_308 ?_
  refine r_aload_n (n := 0) (i := 0) 4 rfl rfl dL_law_309 ?_
  refine r_iload (i := 4) 0 rfl dL_law_310 ?_
  refine r_iconst (v := 1) (by decide) dL_law_312 ?_
  refine r_iaddE (v := nI (t + 1)) (lw_ad (by decide +kernel)) dL_law_313 ?_
  refine r_sldN (t := t + 1) (by omega) hN dL_law_314 ?_
  refine p_callV (As := [.int (oX O (t + 1))]) (rest := []) hx rfl lkL_37 imX7_parts seX7_parts rfl hX.1 rfl rfl (by decide) (Nat.le_of_ble_eq_true rfl) dL_law_315 (fun v9 G9 h9 => ?_) (fun q9 G9 h9 => absurd h9 pX_nx)
  obtain ⟨f9, n9, s9⟩ := G9
  obtain ⟨e0, hX9, e9, hn9, hs9⟩ := h9
  cases e0
  have hn9 : n9 ≤ n + 0 := hn9
  have hs9 : s9 ≤ s + 0 := hs9
  have hM9 : MP f9 σ := MP_fr hM hJ.1 (fun q hq => e9 q (by omega))
  obtain ⟨fs50, h50⟩ := MP_50 hM9
  show bV O mL_law 160 318 [(4, .int (nI t)), (3, .ref 46), (2, .ref 50), (1, .ref 32), (0, .ref 0)] [.int R.1] (f9, n9, s9) Q
  refine r_aload_n (n := 2) (i := 2) 2 rfl rfl dL_law_318 ?_
  refine r_aload_n (n := 0) (i := 0) 4 rfl rfl dL_law_319 ?_
  refine r_iload (i := 4) 0 rfl dL_law_320 ?_
  refine r_iconst (v := 1) (by decide) dL_law_322 ?_
  refine r_iaddE (v := nI (t + 1)) (lw_ad (by decide +kernel)) dL_law_323 ?_
  refine r_sldN (t := t + 1) (by omega) hN dL_law_324 ?_
  refine p_callV (As := [.int (oX O (t + 1))]) (rest := [.int R.1]) (hm f9 n9 s9 hM9) rfl lkL_40 imX11_parts seX11_parts rfl h50 rfl rfl (by decide) (Nat.le_of_ble_eq_true rfl) dL_law_325 (fun v8 G8 h8 => ?_) (fun q8 G8 h8 => absurd h8 pM_nx)
  obtain ⟨f8, n8, s8⟩ := G8
  obtain ⟨e0, hM8, e8, hn8, hs8⟩ := h8
  cases e0
  have hn8 : n8 ≤ n9 + 0 := hn8
  have hs8 : s8 ≤ s9 + 0 := hs8
  show bV O mL_law 160 328 [(4, .int (nI t)), (3, .ref 46), (2, .ref 50), (1, .ref 32), (0, .ref 0)] [.int R.1, .int R.1] (f8, n8, s8) Q
  refine r_icmp_eq (tgt := 1291) (by decide) dL_law_328 (fun _ => ?_) (fun h => absurd rfl h)
  obtain ⟨g, h46⟩ := h46
  exact kk f8 n8 s8 R.2 (XR_fr hX9 hj.1 (fun q hq => e8 q (by omega))) hM8 hj ⟨g, (e8 46 (by omega)).trans ((e9 46 (by omega)).trans h46)⟩ (by omega) (by omega)
set_option maxHeartbeats 1000000 in
theorem lw_c5 {O : bO} {Q : bR → bG → Prop} {f : bF} {n s t : Nat} {σ : SS} (hX : XR f σ) (hM : MP f σ) (hJ : JK σ) (h46 : ∃ g : Nat → Int64, f 46 = some (.inl (2, 1, .inr (.inl g)))) (hN : oN O ≤ 3072) (ht : t + 6 ≤ oN O) (kk : lw_go O Q n s t) : bV O mL_law 160 333 [(4, .int (nI t)), (3, .ref 46), (2, .ref 50), (1, .ref 32), (0, .ref 0)] [] (f, n, s) Q := by
  obtain ⟨bs, tl, mc, md, ip, dc, dr, ac, an, hs, sd, df, dfn, td, tr, ft, pl⟩ := σ
  have hx := x_asks (O := O) (d := 159) (n := n) (s := s) (x := oX O (t + 1)) hX (JJ_JX hJ.1) (by decide)
  have hm := fun (f9 : bF) (n9 s9 : Nat) (h9 : MP f9 (bs, tl, mc, md, ip, dc, dr, ac, an, hs, sd, df, dfn, td, tr, ft, pl)) => m_asks (O := O) (d := 159) (n := n9) (s := s9) (x := oX O (t + 1)) h9 hJ.1 (by decide)
  have hj := j_asks (x := oX O (t + 1)) hJ
  generalize s_asks (bs, tl, mc, md, ip, dc, dr, ac, an, hs, sd, df, dfn, td, tr, ft, pl) (oX O (t + 1)) = R at hx hm hj
  generalize (bs, tl, mc, md, ip, dc, dr, ac, an, hs, sd, df, dfn, td, tr, ft, pl) = σ at hX hM hJ hm
  refine r_aload_n (n := 1) (i := 1) 3 rfl rfl dL_law_333 ?_
  refine r_aload_n (n := 0) (i := 0) 4 rfl rfl dL_law_334 ?_
  refine r_iload (i := 4) 0 rfl dL_law_335 ?_
  refine r_iconst (v := 1) (by decide) dL_law_337 ?_
  refine r_iaddE (v := nI (t + 1)) (lw_ad (by decide +kernel)) dL_law_338 ?_
  refine r_sldN (t := t + 1) (by omega) hN dL_law_339 ?_
  refine p_callV (As := [.int (oX O (t + 1))]) (rest := []) hx rfl lkL_41 imX7_asks seX7_asks rfl hX.1 rfl rfl (by decide) (Nat.le_of_ble_eq_true rfl) dL_law_340 (fun v9 G9 h9 => ?_) (fun q9 G9 h9 => absurd h9 pX_nx)
  obtain ⟨f9, n9, s9⟩ := G9
  obtain ⟨e0, hX9, e9, hn9, hs9⟩ := h9
  cases e0
  have hn9 : n9 ≤ n + 0 := hn9
  have hs9 : s9 ≤ s + 0 := hs9
  have hM9 : MP f9 σ := MP_fr hM hJ.1 (fun q hq => e9 q (by omega))
  obtain ⟨fs50, h50⟩ := MP_50 hM9
  show bV O mL_law 160 343 [(4, .int (nI t)), (3, .ref 46), (2, .ref 50), (1, .ref 32), (0, .ref 0)] [.int R.1] (f9, n9, s9) Q
  refine r_aload_n (n := 2) (i := 2) 2 rfl rfl dL_law_343 ?_
  refine r_aload_n (n := 0) (i := 0) 4 rfl rfl dL_law_344 ?_
  refine r_iload (i := 4) 0 rfl dL_law_345 ?_
  refine r_iconst (v := 1) (by decide) dL_law_347 ?_
  refine r_iaddE (v := nI (t + 1)) (lw_ad (by decide +kernel)) dL_law_348 ?_
  refine r_sldN (t := t + 1) (by omega) hN dL_law_349 ?_
  refine p_callV (As := [.int (oX O (t + 1))]) (rest := [.int R.1]) (hm f9 n9 s9 hM9) rfl lkL_44 imX11_asks seX11_asks rfl h50 rfl rfl (by decide) (Nat.le_of_ble_eq_true rfl) dL_law_350 (fun v8 G8 h8 => ?_) (fun q8 G8 h8 => absurd h8 pM_nx)
  obtain ⟨f8, n8, s8⟩ := G8
  obtain ⟨e0, hM8, e8, hn8, hs8⟩ := h8
  cases e0
  have hn8 : n8 ≤ n9 + 0 := hn8
  have hs8 : s8 ≤ s9 + 0 := hs8
  show bV O mL_law 160 353 [(4, .int (nI t)), (3, .ref 46), (2, .ref 50), (1, .ref 32), (0, .ref 0)] [.int R.1, .int R.1] (f8, n8, s8) Q
  refine r_icmp_eq (tgt := 1291) (by decide) dL_law_353 (fun _ => ?_) (fun h => absurd rfl h)
  obtain ⟨g, h46⟩ := h46
  exact kk f8 n8 s8 R.2 (XR_fr hX9 hj.1 (fun q hq => e8 q (by omega))) hM8 hj ⟨g, (e8 46 (by omega)).trans ((e9 46 (by omega)).trans h46)⟩ (by omega) (by omega)
set_option maxHeartbeats 1000000 in
theorem lw_c6 {O : bO} {Q : bR → bG → Prop} {f : bF} {n s t : Nat} {σ : SS} (hX : XR f σ) (hM : MP f σ) (hJ : JK σ) (h46 : ∃ g : Nat → Int64, f 46 = some (.inl (2, 1, .inr (.inl g)))) (hN : oN O ≤ 3072) (ht : t + 6 ≤ oN O) (kk : lw_go O Q n s t) : bV O mL_law 160 358 [(4, .int (nI t)), (3, .ref 46), (2, .ref 50), (1, .ref 32), (0, .ref 0)] [] (f, n, s) Q := by
  obtain ⟨bs, tl, mc, md, ip, dc, dr, ac, an, hs, sd, df, dfn, td, tr, ft, pl⟩ := σ
  have hx := x_input (O := O) (d := 159) (n := n) (s := s) (k := oX O (t + 1)) (v := oX O (t + 2)) hX (JJ_JX hJ.1) (by decide)
  have hm := fun (f9 : bF) (n9 s9 : Nat) (h9 : MP f9 (bs, tl, mc, md, ip, dc, dr, ac, an, hs, sd, df, dfn, td, tr, ft, pl)) => m_input (O := O) (d := 159) (n := n9) (s := s9) (k := oX O (t + 1)) (v := oX O (t + 2)) h9 hJ.1 (by decide)
  have hj := j_input (k := oX O (t + 1)) (v := oX O (t + 2)) hJ
  generalize s_input (bs, tl, mc, md, ip, dc, dr, ac, an, hs, sd, df, dfn, td, tr, ft, pl) (oX O (t + 1)) (oX O (t + 2)) = R at hx hm hj
  generalize (bs, tl, mc, md, ip, dc, dr, ac, an, hs, sd, df, dfn, td, tr, ft, pl) = σ at hX hM hJ hm
  refine r_aload_n (n := 1) (i := 1) 3 rfl rfl dL_law_358 ?_
  refine r_aload_n (n := 0) (i := 0) 4 rfl rfl dL_law_359 ?_
  refine r_iload (i := 4) 0 rfl dL_law_360 ?_
  refine r_iconst (v := 1) (by decide) dL_law_362 ?_
  refine r_iaddE (v := nI (t + 1)) (lw_ad (by decide +kernel)) dL_law_363 ?_
  refine r_sldN (t := t + 1) (by omega) hN dL_law_364 ?_
  refine r_aload_n (n := 0) (i := 0) 4 rfl rfl dL_law_365 ?_
  refine r_iload (i := 4) 0 rfl dL_law_366 ?_
  refine r_iconst (v := 2) (by decide) dL_law_368 ?_
  refine r_iaddE (v := nI (t + 2)) (lw_ad (by decide +kernel)) dL_law_369 ?_
  refine r_sldN (t := t + 2) (by omega) hN dL_law_370 ?_
  refine p_callV (As := [.int (oX O (t + 1)), .int (oX O (t + 2))]) (rest := []) hx rfl lkL_45 imX7_input seX7_input rfl hX.1 rfl rfl (by decide) (Nat.le_of_ble_eq_true rfl) dL_law_371 (fun v9 G9 h9 => ?_) (fun q9 G9 h9 => absurd h9 pX_nx)
  obtain ⟨f9, n9, s9⟩ := G9
  obtain ⟨e0, hX9, e9, hn9, hs9⟩ := h9
  cases e0
  have hn9 : n9 ≤ n + 0 := hn9
  have hs9 : s9 ≤ s + 0 := hs9
  have hM9 : MP f9 σ := MP_fr hM hJ.1 (fun q hq => e9 q (by omega))
  obtain ⟨fs50, h50⟩ := MP_50 hM9
  show bV O mL_law 160 374 [(4, .int (nI t)), (3, .ref 46), (2, .ref 50), (1, .ref 32), (0, .ref 0)] [.int R.1] (f9, n9, s9) Q
  refine r_aload_n (n := 2) (i := 2) 2 rfl rfl dL_law_374 ?_
  refine r_aload_n (n := 0) (i := 0) 4 rfl rfl dL_law_375 ?_
  refine r_iload (i := 4) 0 rfl dL_law_376 ?_
  refine r_iconst (v := 1) (by decide) dL_law_378 ?_
  refine r_iaddE (v := nI (t + 1)) (lw_ad (by decide +kernel)) dL_law_379 ?_
  refine r_sldN (t := t + 1) (by omega) hN dL_law_380 ?_
  refine r_aload_n (n := 0) (i := 0) 4 rfl rfl dL_law_381 ?_
  refine r_iload (i := 4) 0 rfl dL_law_382 ?_
  refine r_iconst (v := 2) (by decide) dL_law_384 ?_
  refine r_iaddE (v := nI (t + 2)) (lw_ad (by decide +kernel)) dL_law_385 ?_
  refine r_sldN (t := t + 2) (by omega) hN dL_law_386 ?_
  refine p_callV (As := [.int (oX O (t + 1)), .int (oX O (t + 2))]) (rest := [.int R.1]) (hm f9 n9 s9 hM9) rfl lkL_49 imX11_input seX11_input rfl h50 rfl rfl (by decide) (Nat.le_of_ble_eq_true rfl) dL_law_387 (fun v8 G8 h8 => ?_) (fun q8 G8 h8 => absurd h8 pM_nx)
  obtain ⟨f8, n8, s8⟩ := G8
  obtain ⟨e0, hM8, e8, hn8, hs8⟩ := h8
  cases e0
  have hn8 : n8 ≤ n9 + 0 := hn8
  have hs8 : s8 ≤ s9 + 0 := hs8
  show bV O mL_law 160 390 [(4, .int (nI t)), (3, .ref 46), (2, .ref 50), (1, .ref 32), (0, .ref 0)] [.int R.1, .int R.1] (f8, n8, s8) Q
  refine r_icmp_eq (tgt := 1291) (by decide) dL_law_390 (fun _ => ?_) (fun h => absurd rfl h)
  obtain ⟨g, h46⟩ := h46
  exact kk f8 n8 s8 R.2 (XR_fr hX9 hj.1 (fun q hq => e8 q (by omega))) hM8 hj ⟨g, (e8 46 (by omega)).trans ((e9 46 (by omega)).trans h46)⟩ (by omega) (by omega)
set_option maxHeartbeats 1000000 in
theorem lw_c7 {O : bO} {Q : bR → bG → Prop} {f : bF} {n s t : Nat} {σ : SS} (hX : XR f σ) (hM : MP f σ) (hJ : JK σ) (h46 : ∃ g : Nat → Int64, f 46 = some (.inl (2, 1, .inr (.inl g)))) (hN : oN O ≤ 3072) (ht : t + 6 ≤ oN O) (kk : lw_go O Q n s t) : bV O mL_law 160 395 [(4, .int (nI t)), (3, .ref 46), (2, .ref 50), (1, .ref 32), (0, .ref 0)] [] (f, n, s) Q := by
  obtain ⟨bs, tl, mc, md, ip, dc, dr, ac, an, hs, sd, df, dfn, td, tr, ft, pl⟩ := σ
  have hx := x_tell (O := O) (d := 159) (n := n) (s := s) (x := oX O (t + 1)) hX (JJ_JX hJ.1) (by decide)
  have hm := fun (f9 : bF) (n9 s9 : Nat) (h9 : MP f9 (bs, tl, mc, md, ip, dc, dr, ac, an, hs, sd, df, dfn, td, tr, ft, pl)) => m_tell (O := O) (d := 159) (n := n9) (s := s9) (x := oX O (t + 1)) h9 hJ.1 (by decide)
  have hj := j_tell (x := oX O (t + 1)) hJ
  generalize s_tell (bs, tl, mc, md, ip, dc, dr, ac, an, hs, sd, df, dfn, td, tr, ft, pl) (oX O (t + 1)) = R at hx hm hj
  generalize (bs, tl, mc, md, ip, dc, dr, ac, an, hs, sd, df, dfn, td, tr, ft, pl) = σ at hX hM hJ hm
  refine r_aload_n (n := 1) (i := 1) 3 rfl rfl dL_law_395 ?_
  refine r_aload_n (n := 0) (i := 0) 4 rfl rfl dL_law_396 ?_
  refine r_iload (i := 4) 0 rfl dL_law_397 ?_
  refine r_iconst (v := 1) (by decide) dL_law_399 ?_
  refine r_iaddE (v := nI (t + 1)) (lw_ad (by decide +kernel)) dL_law_400 ?_
  refine r_sldN (t := t + 1) (by omega) hN dL_law_401 ?_
  refine p_callV (As := [.int (oX O (t + 1))]) (rest := []) hx rfl lkL_50 imX7_tell seX7_tell rfl hX.1 rfl rfl (by decide) (Nat.le_of_ble_eq_true rfl) dL_law_402 (fun v9 G9 h9 => ?_) (fun q9 G9 h9 => absurd h9 pX_nx)
  obtain ⟨f9, n9, s9⟩ := G9
  obtain ⟨e0, hX9, e9, hn9, hs9⟩ := h9
  cases e0
  have hn9 : n9 ≤ n + 0 := hn9
  have hs9 : s9 ≤ s + 0 := hs9
  have hM9 : MP f9 σ := MP_fr hM hJ.1 (fun q hq => e9 q (by omega))
  obtain ⟨fs50, h50⟩ := MP_50 hM9
  show bV O mL_law 160 405 [(4, .int (nI t)), (3, .ref 46), (2, .ref 50), (1, .ref 32), (0, .ref 0)] [.int R.1] (f9, n9, s9) Q
  refine r_aload_n (n := 2) (i := 2) 2 rfl rfl dL_law_405 ?_
  refine r_aload_n (n := 0) (i := 0) 4 rfl rfl dL_law_406 ?_
  refine r_iload (i := 4) 0 rfl dL_law_407 ?_
  refine r_iconst (v := 1) (by decide) dL_law_409 ?_
  refine r_iaddE (v := nI (t + 1)) (lw_ad (by decide +kernel)) dL_law_410 ?_
  refine r_sldN (t := t + 1) (by omega) hN dL_law_411 ?_
  refine p_callV (As := [.int (oX O (t + 1))]) (rest := [.int R.1]) (hm f9 n9 s9 hM9) rfl lkL_53 imX11_tell seX11_tell rfl h50 rfl rfl (by decide) (Nat.le_of_ble_eq_true rfl) dL_law_412 (fun v8 G8 h8 => ?_) (fun q8 G8 h8 => absurd h8 pM_nx)
  obtain ⟨f8, n8, s8⟩ := G8
  obtain ⟨e0, hM8, e8, hn8, hs8⟩ := h8
  cases e0
  have hn8 : n8 ≤ n9 + 0 := hn8
  have hs8 : s8 ≤ s9 + 0 := hs8
  show bV O mL_law 160 415 [(4, .int (nI t)), (3, .ref 46), (2, .ref 50), (1, .ref 32), (0, .ref 0)] [.int R.1, .int R.1] (f8, n8, s8) Q
  refine r_icmp_eq (tgt := 1291) (by decide) dL_law_415 (fun _ => ?_) (fun h => absurd rfl h)
  obtain ⟨g, h46⟩ := h46
  exact kk f8 n8 s8 R.2 (XR_fr hX9 hj.1 (fun q hq => e8 q (by omega))) hM8 hj ⟨g, (e8 46 (by omega)).trans ((e9 46 (by omega)).trans h46)⟩ (by omega) (by omega)
set_option maxHeartbeats 1000000 in
theorem lw_c8 {O : bO} {Q : bR → bG → Prop} {f : bF} {n s t : Nat} {σ : SS} (hX : XR f σ) (hM : MP f σ) (hJ : JK σ) (h46 : ∃ g : Nat → Int64, f 46 = some (.inl (2, 1, .inr (.inl g)))) (hN : oN O ≤ 3072) (ht : t + 6 ≤ oN O) (kk : lw_go O Q n s t) : bV O mL_law 160 420 [(4, .int (nI t)), (3, .ref 46), (2, .ref 50), (1, .ref 32), (0, .ref 0)] [] (f, n, s) Q := by
  obtain ⟨bs, tl, mc, md, ip, dc, dr, ac, an, hs, sd, df, dfn, td, tr, ft, pl⟩ := σ
  have hx := x_door (O := O) (d := 159) (n := n) (s := s)  hX (JJ_JX hJ.1) (by decide)
  have hm := fun (f9 : bF) (n9 s9 : Nat) (h9 : MP f9 (bs, tl, mc, md, ip, dc, dr, ac, an, hs, sd, df, dfn, td, tr, ft, pl)) => m_door (O := O) (d := 159) (n := n9) (s := s9)  h9 hJ.1 (by decide)
  have hj := j_door  hJ
  generalize s_door (bs, tl, mc, md, ip, dc, dr, ac, an, hs, sd, df, dfn, td, tr, ft, pl)  = R at hx hm hj
  generalize (bs, tl, mc, md, ip, dc, dr, ac, an, hs, sd, df, dfn, td, tr, ft, pl) = σ at hX hM hJ hm
  refine r_aload_n (n := 1) (i := 1) 3 rfl rfl dL_law_420 ?_
  refine p_callV (As := []) (rest := []) hx rfl lkL_54 imX7_door seX7_door rfl hX.1 rfl rfl (by decide) (Nat.le_of_ble_eq_true rfl) dL_law_421 (fun v9 G9 h9 => ?_) (fun q9 G9 h9 => absurd h9 pX_nx)
  obtain ⟨f9, n9, s9⟩ := G9
  obtain ⟨e0, hX9, e9, hn9, hs9⟩ := h9
  cases e0
  have hn9 : n9 ≤ n + 8 := hn9
  have hs9 : s9 ≤ s + 4096 := hs9
  have hM9 : MP f9 σ := MP_fr hM hJ.1 (fun q hq => e9 q (by omega))
  obtain ⟨fs50, h50⟩ := MP_50 hM9
  show bV O mL_law 160 424 [(4, .int (nI t)), (3, .ref 46), (2, .ref 50), (1, .ref 32), (0, .ref 0)] [.int R.1] (f9, n9, s9) Q
  refine r_aload_n (n := 2) (i := 2) 2 rfl rfl dL_law_424 ?_
  refine p_callV (As := []) (rest := [.int R.1]) (hm f9 n9 s9 hM9) rfl lkL_57 imX11_door seX11_door rfl h50 rfl rfl (by decide) (Nat.le_of_ble_eq_true rfl) dL_law_425 (fun v8 G8 h8 => ?_) (fun q8 G8 h8 => absurd h8 pM_nx)
  obtain ⟨f8, n8, s8⟩ := G8
  obtain ⟨e0, hM8, e8, hn8, hs8⟩ := h8
  cases e0
  have hn8 : n8 ≤ n9 + 6 := hn8
  have hs8 : s8 ≤ s9 + 2070 := hs8
  show bV O mL_law 160 428 [(4, .int (nI t)), (3, .ref 46), (2, .ref 50), (1, .ref 32), (0, .ref 0)] [.int R.1, .int R.1] (f8, n8, s8) Q
  refine r_icmp_eq (tgt := 1291) (by decide) dL_law_428 (fun _ => ?_) (fun h => absurd rfl h)
  obtain ⟨g, h46⟩ := h46
  exact kk f8 n8 s8 R.2 (XR_fr hX9 hj.1 (fun q hq => e8 q (by omega))) hM8 hj ⟨g, (e8 46 (by omega)).trans ((e9 46 (by omega)).trans h46)⟩ (by omega) (by omega)
set_option maxHeartbeats 1000000 in
theorem lw_c9 {O : bO} {Q : bR → bG → Prop} {f : bF} {n s t : Nat} {σ : SS} (hX : XR f σ) (hM : MP f σ) (hJ : JK σ) (h46 : ∃ g : Nat → Int64, f 46 = some (.inl (2, 1, .inr (.inl g)))) (hN : oN O ≤ 3072) (ht : t + 6 ≤ oN O) (kk : lw_go O Q n s t) : bV O mL_law 160 433 [(4, .int (nI t)), (3, .ref 46), (2, .ref 50), (1, .ref 32), (0, .ref 0)] [] (f, n, s) Q := by
  obtain ⟨bs, tl, mc, md, ip, dc, dr, ac, an, hs, sd, df, dfn, td, tr, ft, pl⟩ := σ
  have hx := x_guard (O := O) (d := 159) (n := n) (s := s) (x := oX O (t + 1)) (k := oX O (t + 2)) (l := oX O (t + 3)) (h := oX O (t + 4)) hX (JJ_JX hJ.1) (by decide)
  have hm := fun (f9 : bF) (n9 s9 : Nat) (h9 : MP f9 (bs, tl, mc, md, ip, dc, dr, ac, an, hs, sd, df, dfn, td, tr, ft, pl)) => m_guard (O := O) (d := 159) (n := n9) (s := s9) (x := oX O (t + 1)) (k := oX O (t + 2)) (l := oX O (t + 3)) (h := oX O (t + 4)) h9 hJ.1 (by decide)
  have hj := j_guard (x := oX O (t + 1)) (k := oX O (t + 2)) (l := oX O (t + 3)) (h9 := oX O (t + 4)) hJ
  generalize s_guard (bs, tl, mc, md, ip, dc, dr, ac, an, hs, sd, df, dfn, td, tr, ft, pl) (oX O (t + 1)) (oX O (t + 2)) (oX O (t + 3)) (oX O (t + 4)) = R at hx hm hj
  generalize (bs, tl, mc, md, ip, dc, dr, ac, an, hs, sd, df, dfn, td, tr, ft, pl) = σ at hX hM hJ hm
  refine r_aload_n (n := 1) (i := 1) 3 rfl rfl dL_law_433 ?_
  refine r_aload_n (n := 0) (i := 0) 4 rfl rfl dL_law_434 ?_
  refine r_iload (i := 4) 0 rfl dL_law_435 ?_
  refine r_iconst (v := 1) (by decide) dL_law_437 ?_
  refine r_iaddE (v := nI (t + 1)) (lw_ad (by decide +kernel)) dL_law_438 ?_
  refine r_sldN (t := t + 1) (by omega) hN dL_law_439 ?_
  refine r_aload_n (n := 0) (i := 0) 4 rfl rfl dL_law_440 ?_
  refine r_iload (i := 4) 0 rfl dL_law_441 ?_
  refine r_iconst (v := 2) (by decide) dL_law_443 ?_
  refine r_iaddE (v := nI (t + 2)) (lw_ad (by decide +kernel)) dL_law_444 ?_
  refine r_sldN (t := t + 2) (by omega) hN dL_law_445 ?_
  refine r_aload_n (n := 0) (i := 0) 4 rfl rfl dL_law_446 ?_
  refine r_iload (i := 4) 0 rfl dL_law_447 ?_
  refine r_iconst (v := 3) (by decide) dL_law_449 ?_
  refine r_iaddE (v := nI (t + 3)) (lw_ad (by decide +kernel)) dL_law_450 ?_
  refine r_sldN (t := t + 3) (by omega) hN dL_law_451 ?_
  refine r_aload_n (n := 0) (i := 0) 4 rfl rfl dL_law_452 ?_
  refine r_iload (i := 4) 0 rfl dL_law_453 ?_
  refine r_iconst (v := 4) (by decide) dL_law_455 ?_
  refine r_iaddE (v := nI (t + 4)) (lw_ad (by decide +kernel)) dL_law_456 ?_
  refine r_sldN (t := t + 4) (by omega) hN dL_law_457 ?_
  refine p_callV (As := [.int (oX O (t + 1)), .int (oX O (t + 2)), .int (oX O (t + 3)), .int (oX O (t + 4))]) (rest := []) hx rfl lkL_58 imX7_guard seX7_guard rfl hX.1 rfl rfl (by decide) (Nat.le_of_ble_eq_true rfl) dL_law_458 (fun v9 G9 h9 => ?_) (fun q9 G9 h9 => absurd h9 pX_nx)
  obtain ⟨f9, n9, s9⟩ := G9
  obtain ⟨e0, hX9, e9, hn9, hs9⟩ := h9
  cases e0
  have hn9 : n9 ≤ n + 0 := hn9
  have hs9 : s9 ≤ s + 0 := hs9
  have hM9 : MP f9 σ := MP_fr hM hJ.1 (fun q hq => e9 q (by omega))
  obtain ⟨fs50, h50⟩ := MP_50 hM9
  show bV O mL_law 160 461 [(4, .int (nI t)), (3, .ref 46), (2, .ref 50), (1, .ref 32), (0, .ref 0)] [.int R.1] (f9, n9, s9) Q
  refine r_aload_n (n := 2) (i := 2) 2 rfl rfl dL_law_461 ?_
  refine r_aload_n (n := 0) (i := 0) 4 rfl rfl dL_law_462 ?_
  refine r_iload (i := 4) 0 rfl dL_law_463 ?_
  refine r_iconst (v := 1) (by decide) dL_law_465 ?_
  refine r_iaddE (v := nI (t + 1)) (lw_ad (by decide +kernel)) dL_law_466 ?_
  refine r_sldN (t := t + 1) (by omega) hN dL_law_467 ?_
  refine r_aload_n (n := 0) (i := 0) 4 rfl rfl dL_law_468 ?_
  refine r_iload (i := 4) 0 rfl dL_law_469 ?_
  refine r_iconst (v := 2) (by decide) dL_law_471 ?_
  refine r_iaddE (v := nI (t + 2)) (lw_ad (by decide +kernel)) dL_law_472 ?_
  refine r_sldN (t := t + 2) (by omega) hN dL_law_473 ?_
  refine r_aload_n (n := 0) (i := 0) 4 rfl rfl dL_law_474 ?_
  refine r_iload (i := 4) 0 rfl dL_law_475 ?_
  refine r_iconst (v := 3) (by decide) dL_law_477 ?_
  refine r_iaddE (v := nI (t + 3)) (lw_ad (by decide +kernel)) dL_law_478 ?_
  refine r_sldN (t := t + 3) (by omega) hN dL_law_479 ?_
  refine r_aload_n (n := 0) (i := 0) 4 rfl rfl dL_law_480 ?_
  refine r_iload (i := 4) 0 rfl dL_law_481 ?_
  refine r_iconst (v := 4) (by decide) dL_law_483 ?_
  refine r_iaddE (v := nI (t + 4)) (lw_ad (by decide +kernel)) dL_law_484 ?_
  refine r_sldN (t := t + 4) (by omega) hN dL_law_485 ?_
  refine p_callV (As := [.int (oX O (t + 1)), .int (oX O (t + 2)), .int (oX O (t + 3)), .int (oX O (t + 4))]) (rest := [.int R.1]) (hm f9 n9 s9 hM9) rfl lkL_62 imX11_guard seX11_guard rfl h50 rfl rfl (by decide) (Nat.le_of_ble_eq_true rfl) dL_law_486 (fun v8 G8 h8 => ?_) (fun q8 G8 h8 => absurd h8 pM_nx)
  obtain ⟨f8, n8, s8⟩ := G8
  obtain ⟨e0, hM8, e8, hn8, hs8⟩ := h8
  cases e0
  have hn8 : n8 ≤ n9 + 0 := hn8
  have hs8 : s8 ≤ s9 + 0 := hs8
  show bV O mL_law 160 489 [(4, .int (nI t)), (3, .ref 46), (2, .ref 50), (1, .ref 32), (0, .ref 0)] [.int R.1, .int R.1] (f8, n8, s8) Q
  refine r_icmp_eq (tgt := 1291) (by decide) dL_law_489 (fun _ => ?_) (fun h => absurd rfl h)
  obtain ⟨g, h46⟩ := h46
  exact kk f8 n8 s8 R.2 (XR_fr hX9 hj.1 (fun q hq => e8 q (by omega))) hM8 hj ⟨g, (e8 46 (by omega)).trans ((e9 46 (by omega)).trans h46)⟩ (by omega) (by omega)
set_option maxHeartbeats 1000000 in
theorem lw_c10 {O : bO} {Q : bR → bG → Prop} {f : bF} {n s t : Nat} {σ : SS} (hX : XR f σ) (hM : MP f σ) (hJ : JK σ) (h46 : ∃ g : Nat → Int64, f 46 = some (.inl (2, 1, .inr (.inl g)))) (hN : oN O ≤ 3072) (ht : t + 6 ≤ oN O) (kk : lw_go O Q n s t) : bV O mL_law 160 494 [(4, .int (nI t)), (3, .ref 46), (2, .ref 50), (1, .ref 32), (0, .ref 0)] [] (f, n, s) Q := by
  obtain ⟨bs, tl, mc, md, ip, dc, dr, ac, an, hs, sd, df, dfn, td, tr, ft, pl⟩ := σ
  have hx := x_crown (O := O) (d := 159) (n := n) (s := s) (x := oX O (t + 1)) (m := oX O (t + 2)) hX (JJ_JX hJ.1) (by decide)
  have hm := fun (f9 : bF) (n9 s9 : Nat) (h9 : MP f9 (bs, tl, mc, md, ip, dc, dr, ac, an, hs, sd, df, dfn, td, tr, ft, pl)) => m_crown (O := O) (d := 159) (n := n9) (s := s9) (x := oX O (t + 1)) (m := oX O (t + 2)) h9 hJ.1 (by decide)
  have hj := j_crown (x := oX O (t + 1)) (m := oX O (t + 2)) hJ
  generalize s_crown (bs, tl, mc, md, ip, dc, dr, ac, an, hs, sd, df, dfn, td, tr, ft, pl) (oX O (t + 1)) (oX O (t + 2)) = R at hx hm hj
  generalize (bs, tl, mc, md, ip, dc, dr, ac, an, hs, sd, df, dfn, td, tr, ft, pl) = σ at hX hM hJ hm
  refine r_aload_n (n := 1) (i := 1) 3 rfl rfl dL_law_494 ?_
  refine r_aload_n (n := 0) (i := 0) 4 rfl rfl dL_law_495 ?_
  refine r_iload (i := 4) 0 rfl dL_law_496 ?_
  refine r_iconst (v := 1) (by decide) dL_law_498 ?_
  refine r_iaddE (v := nI (t + 1)) (lw_ad (by decide +kernel)) dL_law_499 ?_
  refine r_sldN (t := t + 1) (by omega) hN dL_law_500 ?_
  refine r_aload_n (n := 0) (i := 0) 4 rfl rfl dL_law_501 ?_
  refine r_iload (i := 4) 0 rfl dL_law_502 ?_
  refine r_iconst (v := 2) (by decide) dL_law_504 ?_
  refine r_iaddE (v := nI (t + 2)) (lw_ad (by decide +kernel)) dL_law_505 ?_
  refine r_sldN (t := t + 2) (by omega) hN dL_law_506 ?_
  refine p_callV (As := [.int (oX O (t + 1)), .int (oX O (t + 2))]) (rest := []) hx rfl lkL_63 imX7_crown seX7_crown rfl hX.1 rfl rfl (by decide) (Nat.le_of_ble_eq_true rfl) dL_law_507 (fun v9 G9 h9 => ?_) (fun q9 G9 h9 => absurd h9 pX_nx)
  obtain ⟨f9, n9, s9⟩ := G9
  obtain ⟨e0, hX9, e9, hn9, hs9⟩ := h9
  cases e0
  have hn9 : n9 ≤ n + 0 := hn9
  have hs9 : s9 ≤ s + 0 := hs9
  have hM9 : MP f9 σ := MP_fr hM hJ.1 (fun q hq => e9 q (by omega))
  obtain ⟨fs50, h50⟩ := MP_50 hM9
  show bV O mL_law 160 510 [(4, .int (nI t)), (3, .ref 46), (2, .ref 50), (1, .ref 32), (0, .ref 0)] [.int R.1] (f9, n9, s9) Q
  refine r_aload_n (n := 2) (i := 2) 2 rfl rfl dL_law_510 ?_
  refine r_aload_n (n := 0) (i := 0) 4 rfl rfl dL_law_511 ?_
  refine r_iload (i := 4) 0 rfl dL_law_512 ?_
  refine r_iconst (v := 1) (by decide) dL_law_514 ?_
  refine r_iaddE (v := nI (t + 1)) (lw_ad (by decide +kernel)) dL_law_515 ?_
  refine r_sldN (t := t + 1) (by omega) hN dL_law_516 ?_
  refine r_aload_n (n := 0) (i := 0) 4 rfl rfl dL_law_517 ?_
  refine r_iload (i := 4) 0 rfl dL_law_518 ?_
  refine r_iconst (v := 2) (by decide) dL_law_520 ?_
  refine r_iaddE (v := nI (t + 2)) (lw_ad (by decide +kernel)) dL_law_521 ?_
  refine r_sldN (t := t + 2) (by omega) hN dL_law_522 ?_
  refine p_callV (As := [.int (oX O (t + 1)), .int (oX O (t + 2))]) (rest := [.int R.1]) (hm f9 n9 s9 hM9) rfl lkL_66 imX11_crown seX11_crown rfl h50 rfl rfl (by decide) (Nat.le_of_ble_eq_true rfl) dL_law_523 (fun v8 G8 h8 => ?_) (fun q8 G8 h8 => absurd h8 pM_nx)
  obtain ⟨f8, n8, s8⟩ := G8
  obtain ⟨e0, hM8, e8, hn8, hs8⟩ := h8
  cases e0
  have hn8 : n8 ≤ n9 + 0 := hn8
  have hs8 : s8 ≤ s9 + 0 := hs8
  show bV O mL_law 160 526 [(4, .int (nI t)), (3, .ref 46), (2, .ref 50), (1, .ref 32), (0, .ref 0)] [.int R.1, .int R.1] (f8, n8, s8) Q
  refine r_icmp_eq (tgt := 1291) (by decide) dL_law_526 (fun _ => ?_) (fun h => absurd rfl h)
  obtain ⟨g, h46⟩ := h46
  exact kk f8 n8 s8 R.2 (XR_fr hX9 hj.1 (fun q hq => e8 q (by omega))) hM8 hj ⟨g, (e8 46 (by omega)).trans ((e9 46 (by omega)).trans h46)⟩ (by omega) (by omega)
set_option maxHeartbeats 1000000 in
theorem lw_c11 {O : bO} {Q : bR → bG → Prop} {f : bF} {n s t : Nat} {σ : SS} (hX : XR f σ) (hM : MP f σ) (hJ : JK σ) (h46 : ∃ g : Nat → Int64, f 46 = some (.inl (2, 1, .inr (.inl g)))) (hN : oN O ≤ 3072) (ht : t + 6 ≤ oN O) (kk : lw_go O Q n s t) : bV O mL_law 160 531 [(4, .int (nI t)), (3, .ref 46), (2, .ref 50), (1, .ref 32), (0, .ref 0)] [] (f, n, s) Q := by
  obtain ⟨bs, tl, mc, md, ip, dc, dr, ac, an, hs, sd, df, dfn, td, tr, ft, pl⟩ := σ
  have hx := x_rival (O := O) (d := 159) (n := n) (s := s) (x := oX O (t + 1)) (m := oX O (t + 2)) (h := oX O (t + 3)) hX (JJ_JX hJ.1) (by decide)
  have hm := fun (f9 : bF) (n9 s9 : Nat) (h9 : MP f9 (bs, tl, mc, md, ip, dc, dr, ac, an, hs, sd, df, dfn, td, tr, ft, pl)) => m_rival (O := O) (d := 159) (n := n9) (s := s9) (x := oX O (t + 1)) (m := oX O (t + 2)) (h := oX O (t + 3)) h9 hJ.1 (by decide)
  have hj := j_rival (x := oX O (t + 1)) (m := oX O (t + 2)) (h9 := oX O (t + 3)) hJ
  generalize s_rival (bs, tl, mc, md, ip, dc, dr, ac, an, hs, sd, df, dfn, td, tr, ft, pl) (oX O (t + 1)) (oX O (t + 2)) (oX O (t + 3)) = R at hx hm hj
  generalize (bs, tl, mc, md, ip, dc, dr, ac, an, hs, sd, df, dfn, td, tr, ft, pl) = σ at hX hM hJ hm
  refine r_aload_n (n := 1) (i := 1) 3 rfl rfl dL_law_531 ?_
  refine r_aload_n (n := 0) (i := 0) 4 rfl rfl dL_law_532 ?_
  refine r_iload (i := 4) 0 rfl dL_law_533 ?_
  refine r_iconst (v := 1) (by decide) dL_law_535 ?_
  refine r_iaddE (v := nI (t + 1)) (lw_ad (by decide +kernel)) dL_law_536 ?_
  refine r_sldN (t := t + 1) (by omega) hN dL_law_537 ?_
  refine r_aload_n (n := 0) (i := 0) 4 rfl rfl dL_law_538 ?_
  refine r_iload (i := 4) 0 rfl dL_law_539 ?_
  refine r_iconst (v := 2) (by decide) dL_law_541 ?_
  refine r_iaddE (v := nI (t + 2)) (lw_ad (by decide +kernel)) dL_law_542 ?_
  refine r_sldN (t := t + 2) (by omega) hN dL_law_543 ?_
  refine r_aload_n (n := 0) (i := 0) 4 rfl rfl dL_law_544 ?_
  refine r_iload (i := 4) 0 rfl dL_law_545 ?_
  refine r_iconst (v := 3) (by decide) dL_law_547 ?_
  refine r_iaddE (v := nI (t + 3)) (lw_ad (by decide +kernel)) dL_law_548 ?_
  refine r_sldN (t := t + 3) (by omega) hN dL_law_549 ?_
  refine p_callV (As := [.int (oX O (t + 1)), .int (oX O (t + 2)), .int (oX O (t + 3))]) (rest := []) hx rfl lkL_67 imX7_rival seX7_rival rfl hX.1 rfl rfl (by decide) (Nat.le_of_ble_eq_true rfl) dL_law_550 (fun v9 G9 h9 => ?_) (fun q9 G9 h9 => absurd h9 pX_nx)
  obtain ⟨f9, n9, s9⟩ := G9
  obtain ⟨e0, hX9, e9, hn9, hs9⟩ := h9
  cases e0
  have hn9 : n9 ≤ n + 0 := hn9
  have hs9 : s9 ≤ s + 0 := hs9
  have hM9 : MP f9 σ := MP_fr hM hJ.1 (fun q hq => e9 q (by omega))
  obtain ⟨fs50, h50⟩ := MP_50 hM9
  show bV O mL_law 160 553 [(4, .int (nI t)), (3, .ref 46), (2, .ref 50), (1, .ref 32), (0, .ref 0)] [.int R.1] (f9, n9, s9) Q
  refine r_aload_n (n := 2) (i := 2) 2 rfl rfl dL_law_553 ?_
  refine r_aload_n (n := 0) (i := 0) 4 rfl rfl dL_law_554 ?_
  refine r_iload (i := 4) 0 rfl dL_law_555 ?_
  refine r_iconst (v := 1) (by decide) dL_law_557 ?_
  refine r_iaddE (v := nI (t + 1)) (lw_ad (by decide +kernel)) dL_law_558 ?_
  refine r_sldN (t := t + 1) (by omega) hN dL_law_559 ?_
  refine r_aload_n (n := 0) (i := 0) 4 rfl rfl dL_law_560 ?_
  refine r_iload (i := 4) 0 rfl dL_law_561 ?_
  refine r_iconst (v := 2) (by decide) dL_law_563 ?_
  refine r_iaddE (v := nI (t + 2)) (lw_ad (by decide +kernel)) dL_law_564 ?_
  refine r_sldN (t := t + 2) (by omega) hN dL_law_565 ?_
  refine r_aload_n (n := 0) (i := 0) 4 rfl rfl dL_law_566 ?_
  refine r_iload (i := 4) 0 rfl dL_law_567 ?_
  refine r_iconst (v := 3) (by decide) dL_law_569 ?_
  refine r_iaddE (v := nI (t + 3)) (lw_ad (by decide +kernel)) dL_law_570 ?_
  refine r_sldN (t := t + 3) (by omega) hN dL_law_571 ?_
  refine p_callV (As := [.int (oX O (t + 1)), .int (oX O (t + 2)), .int (oX O (t + 3))]) (rest := [.int R.1]) (hm f9 n9 s9 hM9) rfl lkL_71 imX11_rival seX11_rival rfl h50 rfl rfl (by decide) (Nat.le_of_ble_eq_true rfl) dL_law_572 (fun v8 G8 h8 => ?_) (fun q8 G8 h8 => absurd h8 pM_nx)
  obtain ⟨f8, n8, s8⟩ := G8
  obtain ⟨e0, hM8, e8, hn8, hs8⟩ := h8
  cases e0
  have hn8 : n8 ≤ n9 + 0 := hn8
  have hs8 : s8 ≤ s9 + 0 := hs8
  show bV O mL_law 160 575 [(4, .int (nI t)), (3, .ref 46), (2, .ref 50), (1, .ref 32), (0, .ref 0)] [.int R.1, .int R.1] (f8, n8, s8) Q
  refine r_icmp_eq (tgt := 1291) (by decide) dL_law_575 (fun _ => ?_) (fun h => absurd rfl h)
  obtain ⟨g, h46⟩ := h46
  exact kk f8 n8 s8 R.2 (XR_fr hX9 hj.1 (fun q hq => e8 q (by omega))) hM8 hj ⟨g, (e8 46 (by omega)).trans ((e9 46 (by omega)).trans h46)⟩ (by omega) (by omega)
set_option maxHeartbeats 1000000 in
theorem lw_c12 {O : bO} {Q : bR → bG → Prop} {f : bF} {n s t : Nat} {σ : SS} (hX : XR f σ) (hM : MP f σ) (hJ : JK σ) (h46 : ∃ g : Nat → Int64, f 46 = some (.inl (2, 1, .inr (.inl g)))) (hN : oN O ≤ 3072) (ht : t + 6 ≤ oN O) (kk : lw_go O Q n s t) : bV O mL_law 160 580 [(4, .int (nI t)), (3, .ref 46), (2, .ref 50), (1, .ref 32), (0, .ref 0)] [] (f, n, s) Q := by
  obtain ⟨bs, tl, mc, md, ip, dc, dr, ac, an, hs, sd, df, dfn, td, tr, ft, pl⟩ := σ
  have hx := x_leave (O := O) (d := 159) (n := n) (s := s) (x := oX O (t + 1)) hX (JJ_JX hJ.1) (by decide)
  have hm := fun (f9 : bF) (n9 s9 : Nat) (h9 : MP f9 (bs, tl, mc, md, ip, dc, dr, ac, an, hs, sd, df, dfn, td, tr, ft, pl)) => m_leave (O := O) (d := 159) (n := n9) (s := s9) (x := oX O (t + 1)) h9 hJ.1 (by decide)
  have hj := j_leave (x := oX O (t + 1)) hJ
  generalize s_leave (bs, tl, mc, md, ip, dc, dr, ac, an, hs, sd, df, dfn, td, tr, ft, pl) (oX O (t + 1)) = R at hx hm hj
  generalize (bs, tl, mc, md, ip, dc, dr, ac, an, hs, sd, df, dfn, td, tr, ft, pl) = σ at hX hM hJ hm
  refine r_aload_n (n := 1) (i := 1) 3 rfl rfl dL_law_580 ?_
  refine r_aload_n (n := 0) (i := 0) 4 rfl rfl dL_law_581 ?_
  refine r_iload (i := 4) 0 rfl dL_law_582 ?_
  refine r_iconst (v := 1) (by decide) dL_law_584 ?_
  refine r_iaddE (v := nI (t + 1)) (lw_ad (by decide +kernel)) dL_law_585 ?_
  refine r_sldN (t := t + 1) (by omega) hN dL_law_586 ?_
  refine p_callV (As := [.int (oX O (t + 1))]) (rest := []) hx rfl lkL_72 imX7_leave seX7_leave rfl hX.1 rfl rfl (by decide) (Nat.le_of_ble_eq_true rfl) dL_law_587 (fun v9 G9 h9 => ?_) (fun q9 G9 h9 => absurd h9 pX_nx)
  obtain ⟨f9, n9, s9⟩ := G9
  obtain ⟨e0, hX9, e9, hn9, hs9⟩ := h9
  cases e0
  have hn9 : n9 ≤ n + 0 := hn9
  have hs9 : s9 ≤ s + 0 := hs9
  have hM9 : MP f9 σ := MP_fr hM hJ.1 (fun q hq => e9 q (by omega))
  obtain ⟨fs50, h50⟩ := MP_50 hM9
  show bV O mL_law 160 590 [(4, .int (nI t)), (3, .ref 46), (2, .ref 50), (1, .ref 32), (0, .ref 0)] [.int R.1] (f9, n9, s9) Q
  refine r_aload_n (n := 2) (i := 2) 2 rfl rfl dL_law_590 ?_
  refine r_aload_n (n := 0) (i := 0) 4 rfl rfl dL_law_591 ?_
  refine r_iload (i := 4) 0 rfl dL_law_592 ?_
  refine r_iconst (v := 1) (by decide) dL_law_594 ?_
  refine r_iaddE (v := nI (t + 1)) (lw_ad (by decide +kernel)) dL_law_595 ?_
  refine r_sldN (t := t + 1) (by omega) hN dL_law_596 ?_
  refine p_callV (As := [.int (oX O (t + 1))]) (rest := [.int R.1]) (hm f9 n9 s9 hM9) rfl lkL_76 imX11_leave seX11_leave rfl h50 rfl rfl (by decide) (Nat.le_of_ble_eq_true rfl) dL_law_597 (fun v8 G8 h8 => ?_) (fun q8 G8 h8 => absurd h8 pM_nx)
  obtain ⟨f8, n8, s8⟩ := G8
  obtain ⟨e0, hM8, e8, hn8, hs8⟩ := h8
  cases e0
  have hn8 : n8 ≤ n9 + 0 := hn8
  have hs8 : s8 ≤ s9 + 0 := hs8
  show bV O mL_law 160 600 [(4, .int (nI t)), (3, .ref 46), (2, .ref 50), (1, .ref 32), (0, .ref 0)] [.int R.1, .int R.1] (f8, n8, s8) Q
  refine r_icmp_eq (tgt := 1291) (by decide) dL_law_600 (fun _ => ?_) (fun h => absurd rfl h)
  obtain ⟨g, h46⟩ := h46
  exact kk f8 n8 s8 R.2 (XR_fr hX9 hj.1 (fun q hq => e8 q (by omega))) hM8 hj ⟨g, (e8 46 (by omega)).trans ((e9 46 (by omega)).trans h46)⟩ (by omega) (by omega)
set_option maxHeartbeats 1000000 in
theorem lw_c13 {O : bO} {Q : bR → bG → Prop} {f : bF} {n s t : Nat} {σ : SS} (hX : XR f σ) (hM : MP f σ) (hJ : JK σ) (h46 : ∃ g : Nat → Int64, f 46 = some (.inl (2, 1, .inr (.inl g)))) (hN : oN O ≤ 3072) (ht : t + 6 ≤ oN O) (kk : lw_go O Q n s t) : bV O mL_law 160 605 [(4, .int (nI t)), (3, .ref 46), (2, .ref 50), (1, .ref 32), (0, .ref 0)] [] (f, n, s) Q := by
  obtain ⟨bs, tl, mc, md, ip, dc, dr, ac, an, hs, sd, df, dfn, td, tr, ft, pl⟩ := σ
  have hx := x_back (O := O) (d := 159) (n := n) (s := s) (x := oX O (t + 1)) hX (JJ_JX hJ.1) (by decide)
  have hm := fun (f9 : bF) (n9 s9 : Nat) (h9 : MP f9 (bs, tl, mc, md, ip, dc, dr, ac, an, hs, sd, df, dfn, td, tr, ft, pl)) => m_back (O := O) (d := 159) (n := n9) (s := s9) (x := oX O (t + 1)) h9 hJ.1 (by decide)
  have hj := j_back (x := oX O (t + 1)) hJ
  generalize s_back (bs, tl, mc, md, ip, dc, dr, ac, an, hs, sd, df, dfn, td, tr, ft, pl) (oX O (t + 1)) = R at hx hm hj
  generalize (bs, tl, mc, md, ip, dc, dr, ac, an, hs, sd, df, dfn, td, tr, ft, pl) = σ at hX hM hJ hm
  refine r_aload_n (n := 1) (i := 1) 3 rfl rfl dL_law_605 ?_
  refine r_aload_n (n := 0) (i := 0) 4 rfl rfl dL_law_606 ?_
  refine r_iload (i := 4) 0 rfl dL_law_607 ?_
  refine r_iconst (v := 1) (by decide) dL_law_609 ?_
  refine r_iaddE (v := nI (t + 1)) (lw_ad (by decide +kernel)) dL_law_610 ?_
  refine r_sldN (t := t + 1) (by omega) hN dL_law_611 ?_
  refine p_callV (As := [.int (oX O (t + 1))]) (rest := []) hx rfl lkL_77 imX7_back seX7_back rfl hX.1 rfl rfl (by decide) (Nat.le_of_ble_eq_true rfl) dL_law_612 (fun v9 G9 h9 => ?_) (fun q9 G9 h9 => absurd h9 pX_nx)
  obtain ⟨f9, n9, s9⟩ := G9
  obtain ⟨e0, hX9, e9, hn9, hs9⟩ := h9
  cases e0
  have hn9 : n9 ≤ n + 0 := hn9
  have hs9 : s9 ≤ s + 0 := hs9
  have hM9 : MP f9 σ := MP_fr hM hJ.1 (fun q hq => e9 q (by omega))
  obtain ⟨fs50, h50⟩ := MP_50 hM9
  show bV O mL_law 160 615 [(4, .int (nI t)), (3, .ref 46), (2, .ref 50), (1, .ref 32), (0, .ref 0)] [.int R.1] (f9, n9, s9) Q
  refine r_aload_n (n := 2) (i := 2) 2 rfl rfl dL_law_615 ?_
  refine r_aload_n (n := 0) (i := 0) 4 rfl rfl dL_law_616 ?_
  refine r_iload (i := 4) 0 rfl dL_law_617 ?_
  refine r_iconst (v := 1) (by decide) dL_law_619 ?_
  refine r_iaddE (v := nI (t + 1)) (lw_ad (by decide +kernel)) dL_law_620 ?_
  refine r_sldN (t := t + 1) (by omega) hN dL_law_621 ?_
  refine p_callV (As := [.int (oX O (t + 1))]) (rest := [.int R.1]) (hm f9 n9 s9 hM9) rfl lkL_80 imX11_back seX11_back rfl h50 rfl rfl (by decide) (Nat.le_of_ble_eq_true rfl) dL_law_622 (fun v8 G8 h8 => ?_) (fun q8 G8 h8 => absurd h8 pM_nx)
  obtain ⟨f8, n8, s8⟩ := G8
  obtain ⟨e0, hM8, e8, hn8, hs8⟩ := h8
  cases e0
  have hn8 : n8 ≤ n9 + 0 := hn8
  have hs8 : s8 ≤ s9 + 0 := hs8
  show bV O mL_law 160 625 [(4, .int (nI t)), (3, .ref 46), (2, .ref 50), (1, .ref 32), (0, .ref 0)] [.int R.1, .int R.1] (f8, n8, s8) Q
  refine r_icmp_eq (tgt := 1291) (by decide) dL_law_625 (fun _ => ?_) (fun h => absurd rfl h)
  obtain ⟨g, h46⟩ := h46
  exact kk f8 n8 s8 R.2 (XR_fr hX9 hj.1 (fun q hq => e8 q (by omega))) hM8 hj ⟨g, (e8 46 (by omega)).trans ((e9 46 (by omega)).trans h46)⟩ (by omega) (by omega)
set_option maxHeartbeats 1000000 in
theorem lw_c14 {O : bO} {Q : bR → bG → Prop} {f : bF} {n s t : Nat} {σ : SS} (hX : XR f σ) (hM : MP f σ) (hJ : JK σ) (h46 : ∃ g : Nat → Int64, f 46 = some (.inl (2, 1, .inr (.inl g)))) (hN : oN O ≤ 3072) (ht : t + 6 ≤ oN O) (kk : lw_go O Q n s t) : bV O mL_law 160 630 [(4, .int (nI t)), (3, .ref 46), (2, .ref 50), (1, .ref 32), (0, .ref 0)] [] (f, n, s) Q := by
  obtain ⟨bs, tl, mc, md, ip, dc, dr, ac, an, hs, sd, df, dfn, td, tr, ft, pl⟩ := σ
  have hx := x_champion (O := O) (d := 159) (n := n) (s := s) (x := oX O (t + 1)) (d_ := oX O (t + 2)) hX (JJ_JX hJ.1) (by decide)
  have hm := fun (f9 : bF) (n9 s9 : Nat) (h9 : MP f9 (bs, tl, mc, md, ip, dc, dr, ac, an, hs, sd, df, dfn, td, tr, ft, pl)) => m_champion (O := O) (d := 159) (n := n9) (s := s9) (x := oX O (t + 1)) (y := oX O (t + 2)) h9 hJ.1 (by decide)
  have hj := j_champion (x := oX O (t + 1)) (y := oX O (t + 2)) hJ
  generalize s_champion (bs, tl, mc, md, ip, dc, dr, ac, an, hs, sd, df, dfn, td, tr, ft, pl) (oX O (t + 1)) (oX O (t + 2)) = R at hx hm hj
  generalize (bs, tl, mc, md, ip, dc, dr, ac, an, hs, sd, df, dfn, td, tr, ft, pl) = σ at hX hM hJ hm
  refine r_aload_n (n := 1) (i := 1) 3 rfl rfl dL_law_630 ?_
  refine r_aload_n (n := 0) (i := 0) 4 rfl rfl dL_law_631 ?_
  refine r_iload (i := 4) 0 rfl dL_law_632 ?_
  refine r_iconst (v := 1) (by decide) dL_law_634 ?_
  refine r_iaddE (v := nI (t + 1)) (lw_ad (by decide +kernel)) dL_law_635 ?_
  refine r_sldN (t := t + 1) (by omega) hN dL_law_636 ?_
  refine r_aload_n (n := 0) (i := 0) 4 rfl rfl dL_law_637 ?_
  refine r_iload (i := 4) 0 rfl dL_law_638 ?_
  refine r_iconst (v := 2) (by decide) dL_law_640 ?_
  refine r_iaddE (v := nI (t + 2)) (lw_ad (by decide +kernel)) dL_law_641 ?_
  refine r_sldN (t := t + 2) (by omega) hN dL_law_642 ?_
  refine p_callV (As := [.int (oX O (t + 1)), .int (oX O (t + 2))]) (rest := []) hx rfl lkL_81 imX7_champion seX7_champion rfl hX.1 rfl rfl (by decide) (Nat.le_of_ble_eq_true rfl) dL_law_643 (fun v9 G9 h9 => ?_) (fun q9 G9 h9 => absurd h9 pX_nx)
  obtain ⟨f9, n9, s9⟩ := G9
  obtain ⟨e0, hX9, e9, hn9, hs9⟩ := h9
  cases e0
  have hn9 : n9 ≤ n + 0 := hn9
  have hs9 : s9 ≤ s + 0 := hs9
  have hM9 : MP f9 σ := MP_fr hM hJ.1 (fun q hq => e9 q (by omega))
  obtain ⟨fs50, h50⟩ := MP_50 hM9
  show bV O mL_law 160 646 [(4, .int (nI t)), (3, .ref 46), (2, .ref 50), (1, .ref 32), (0, .ref 0)] [.int R.1] (f9, n9, s9) Q
  refine r_aload_n (n := 2) (i := 2) 2 rfl rfl dL_law_646 ?_
  refine r_aload_n (n := 0) (i := 0) 4 rfl rfl dL_law_647 ?_
  refine r_iload (i := 4) 0 rfl dL_law_648 ?_
  refine r_iconst (v := 1) (by decide) dL_law_650 ?_
  refine r_iaddE (v := nI (t + 1)) (lw_ad (by decide +kernel)) dL_law_651 ?_
  refine r_sldN (t := t + 1) (by omega) hN dL_law_652 ?_
  refine r_aload_n (n := 0) (i := 0) 4 rfl rfl dL_law_653 ?_
  refine r_iload (i := 4) 0 rfl dL_law_654 ?_
  refine r_iconst (v := 2) (by decide) dL_law_656 ?_
  refine r_iaddE (v := nI (t + 2)) (lw_ad (by decide +kernel)) dL_law_657 ?_
  refine r_sldN (t := t + 2) (by omega) hN dL_law_658 ?_
  refine p_callV (As := [.int (oX O (t + 1)), .int (oX O (t + 2))]) (rest := [.int R.1]) (hm f9 n9 s9 hM9) rfl lkL_85 imX11_champion seX11_champion rfl h50 rfl rfl (by decide) (Nat.le_of_ble_eq_true rfl) dL_law_659 (fun v8 G8 h8 => ?_) (fun q8 G8 h8 => absurd h8 pM_nx)
  obtain ⟨f8, n8, s8⟩ := G8
  obtain ⟨e0, hM8, e8, hn8, hs8⟩ := h8
  cases e0
  have hn8 : n8 ≤ n9 + 0 := hn8
  have hs8 : s8 ≤ s9 + 0 := hs8
  show bV O mL_law 160 662 [(4, .int (nI t)), (3, .ref 46), (2, .ref 50), (1, .ref 32), (0, .ref 0)] [.int R.1, .int R.1] (f8, n8, s8) Q
  refine r_icmp_eq (tgt := 1291) (by decide) dL_law_662 (fun _ => ?_) (fun h => absurd rfl h)
  obtain ⟨g, h46⟩ := h46
  exact kk f8 n8 s8 R.2 (XR_fr hX9 hj.1 (fun q hq => e8 q (by omega))) hM8 hj ⟨g, (e8 46 (by omega)).trans ((e9 46 (by omega)).trans h46)⟩ (by omega) (by omega)
set_option maxHeartbeats 1000000 in
theorem lw_c15 {O : bO} {Q : bR → bG → Prop} {f : bF} {n s t : Nat} {σ : SS} (hX : XR f σ) (hM : MP f σ) (hJ : JK σ) (h46 : ∃ g : Nat → Int64, f 46 = some (.inl (2, 1, .inr (.inl g)))) (hN : oN O ≤ 3072) (ht : t + 6 ≤ oN O) (kk : lw_go O Q n s t) : bV O mL_law 160 667 [(4, .int (nI t)), (3, .ref 46), (2, .ref 50), (1, .ref 32), (0, .ref 0)] [] (f, n, s) Q := by
  obtain ⟨bs, tl, mc, md, ip, dc, dr, ac, an, hs, sd, df, dfn, td, tr, ft, pl⟩ := σ
  have hx := x_about (O := O) (d := 159) (n := n) (s := s) (x := oX O (t + 1)) (w := oX O (t + 2)) hX (JJ_JX hJ.1) (by decide)
  have hm := fun (f9 : bF) (n9 s9 : Nat) (h9 : MP f9 (bs, tl, mc, md, ip, dc, dr, ac, an, hs, sd, df, dfn, td, tr, ft, pl)) => m_about (O := O) (d := 159) (n := n9) (s := s9) (x := oX O (t + 1)) (w := oX O (t + 2)) h9 hJ.1 (by decide)
  have hj := j_about (x := oX O (t + 1)) (w := oX O (t + 2)) hJ
  generalize s_about (bs, tl, mc, md, ip, dc, dr, ac, an, hs, sd, df, dfn, td, tr, ft, pl) (oX O (t + 1)) (oX O (t + 2)) = R at hx hm hj
  generalize (bs, tl, mc, md, ip, dc, dr, ac, an, hs, sd, df, dfn, td, tr, ft, pl) = σ at hX hM hJ hm
  refine r_aload_n (n := 1) (i := 1) 3 rfl rfl dL_law_667 ?_
  refine r_aload_n (n := 0) (i := 0) 4 rfl rfl dL_law_668 ?_
  refine r_iload (i := 4) 0 rfl dL_law_669 ?_
  refine r_iconst (v := 1) (by decide) dL_law_671 ?_
  refine r_iaddE (v := nI (t + 1)) (lw_ad (by decide +kernel)) dL_law_672 ?_
  refine r_sldN (t := t + 1) (by omega) hN dL_law_673 ?_
  refine r_aload_n (n := 0) (i := 0) 4 rfl rfl dL_law_674 ?_
  refine r_iload (i := 4) 0 rfl dL_law_675 ?_
  refine r_iconst (v := 2) (by decide) dL_law_677 ?_
  refine r_iaddE (v := nI (t + 2)) (lw_ad (by decide +kernel)) dL_law_678 ?_
  refine r_sldN (t := t + 2) (by omega) hN dL_law_679 ?_
  refine p_callV (As := [.int (oX O (t + 1)), .int (oX O (t + 2))]) (rest := []) hx rfl lkL_86 imX7_about seX7_about rfl hX.1 rfl rfl (by decide) (Nat.le_of_ble_eq_true rfl) dL_law_680 (fun v9 G9 h9 => ?_) (fun q9 G9 h9 => absurd h9 pX_nx)
  obtain ⟨f9, n9, s9⟩ := G9
  obtain ⟨e0, hX9, e9, hn9, hs9⟩ := h9
  cases e0
  have hn9 : n9 ≤ n + 0 := hn9
  have hs9 : s9 ≤ s + 0 := hs9
  have hM9 : MP f9 σ := MP_fr hM hJ.1 (fun q hq => e9 q (by omega))
  obtain ⟨fs50, h50⟩ := MP_50 hM9
  show bV O mL_law 160 683 [(4, .int (nI t)), (3, .ref 46), (2, .ref 50), (1, .ref 32), (0, .ref 0)] [.int R.1] (f9, n9, s9) Q
  refine r_aload_n (n := 2) (i := 2) 2 rfl rfl dL_law_683 ?_
  refine r_aload_n (n := 0) (i := 0) 4 rfl rfl dL_law_684 ?_
  refine r_iload (i := 4) 0 rfl dL_law_685 ?_
  refine r_iconst (v := 1) (by decide) dL_law_687 ?_
  refine r_iaddE (v := nI (t + 1)) (lw_ad (by decide +kernel)) dL_law_688 ?_
  refine r_sldN (t := t + 1) (by omega) hN dL_law_689 ?_
  refine r_aload_n (n := 0) (i := 0) 4 rfl rfl dL_law_690 ?_
  refine r_iload (i := 4) 0 rfl dL_law_691 ?_
  refine r_iconst (v := 2) (by decide) dL_law_693 ?_
  refine r_iaddE (v := nI (t + 2)) (lw_ad (by decide +kernel)) dL_law_694 ?_
  refine r_sldN (t := t + 2) (by omega) hN dL_law_695 ?_
  refine p_callV (As := [.int (oX O (t + 1)), .int (oX O (t + 2))]) (rest := [.int R.1]) (hm f9 n9 s9 hM9) rfl lkL_89 imX11_about seX11_about rfl h50 rfl rfl (by decide) (Nat.le_of_ble_eq_true rfl) dL_law_696 (fun v8 G8 h8 => ?_) (fun q8 G8 h8 => absurd h8 pM_nx)
  obtain ⟨f8, n8, s8⟩ := G8
  obtain ⟨e0, hM8, e8, hn8, hs8⟩ := h8
  cases e0
  have hn8 : n8 ≤ n9 + 0 := hn8
  have hs8 : s8 ≤ s9 + 0 := hs8
  show bV O mL_law 160 699 [(4, .int (nI t)), (3, .ref 46), (2, .ref 50), (1, .ref 32), (0, .ref 0)] [.int R.1, .int R.1] (f8, n8, s8) Q
  refine r_icmp_eq (tgt := 1291) (by decide) dL_law_699 (fun _ => ?_) (fun h => absurd rfl h)
  obtain ⟨g, h46⟩ := h46
  exact kk f8 n8 s8 R.2 (XR_fr hX9 hj.1 (fun q hq => e8 q (by omega))) hM8 hj ⟨g, (e8 46 (by omega)).trans ((e9 46 (by omega)).trans h46)⟩ (by omega) (by omega)
set_option maxHeartbeats 1000000 in
theorem lw_c16 {O : bO} {Q : bR → bG → Prop} {f : bF} {n s t : Nat} {σ : SS} (hX : XR f σ) (hM : MP f σ) (hJ : JK σ) (h46 : ∃ g : Nat → Int64, f 46 = some (.inl (2, 1, .inr (.inl g)))) (hN : oN O ≤ 3072) (ht : t + 6 ≤ oN O) (kk : lw_go O Q n s t) : bV O mL_law 160 704 [(4, .int (nI t)), (3, .ref 46), (2, .ref 50), (1, .ref 32), (0, .ref 0)] [] (f, n, s) Q := by
  obtain ⟨bs, tl, mc, md, ip, dc, dr, ac, an, hs, sd, df, dfn, td, tr, ft, pl⟩ := σ
  have hx := x_pass (O := O) (d := 159) (n := n) (s := s) (k := oX O (t + 1)) hX (JJ_JX hJ.1) (by decide)
  have hm := fun (f9 : bF) (n9 s9 : Nat) (h9 : MP f9 (bs, tl, mc, md, ip, dc, dr, ac, an, hs, sd, df, dfn, td, tr, ft, pl)) => m_pass (O := O) (d := 159) (n := n9) (s := s9) (k := oX O (t + 1)) h9 hJ.1 (by decide)
  have hj := j_pass (k := oX O (t + 1)) hJ
  generalize s_pass (bs, tl, mc, md, ip, dc, dr, ac, an, hs, sd, df, dfn, td, tr, ft, pl) (oX O (t + 1)) = R at hx hm hj
  generalize (bs, tl, mc, md, ip, dc, dr, ac, an, hs, sd, df, dfn, td, tr, ft, pl) = σ at hX hM hJ hm
  refine r_aload_n (n := 1) (i := 1) 3 rfl rfl dL_law_704 ?_
  refine r_aload_n (n := 0) (i := 0) 4 rfl rfl dL_law_705 ?_
  refine r_iload (i := 4) 0 rfl dL_law_706 ?_
  refine r_iconst (v := 1) (by decide) dL_law_708 ?_
  refine r_iaddE (v := nI (t + 1)) (lw_ad (by decide +kernel)) dL_law_709 ?_
  refine r_sldN (t := t + 1) (by omega) hN dL_law_710 ?_
  refine p_callV (As := [.int (oX O (t + 1))]) (rest := []) hx rfl lkL_90 imX7_pass seX7_pass rfl hX.1 rfl rfl (by decide) (Nat.le_of_ble_eq_true rfl) dL_law_711 (fun v9 G9 h9 => ?_) (fun q9 G9 h9 => absurd h9 pX_nx)
  obtain ⟨f9, n9, s9⟩ := G9
  obtain ⟨e0, hX9, e9, hn9, hs9⟩ := h9
  cases e0
  have hn9 : n9 ≤ n + 0 := hn9
  have hs9 : s9 ≤ s + 0 := hs9
  have hM9 : MP f9 σ := MP_fr hM hJ.1 (fun q hq => e9 q (by omega))
  obtain ⟨fs50, h50⟩ := MP_50 hM9
  show bV O mL_law 160 714 [(4, .int (nI t)), (3, .ref 46), (2, .ref 50), (1, .ref 32), (0, .ref 0)] [.int R.1] (f9, n9, s9) Q
  refine r_aload_n (n := 2) (i := 2) 2 rfl rfl dL_law_714 ?_
  refine r_aload_n (n := 0) (i := 0) 4 rfl rfl dL_law_715 ?_
  refine r_iload (i := 4) 0 rfl dL_law_716 ?_
  refine r_iconst (v := 1) (by decide) dL_law_718 ?_
  refine r_iaddE (v := nI (t + 1)) (lw_ad (by decide +kernel)) dL_law_719 ?_
  refine r_sldN (t := t + 1) (by omega) hN dL_law_720 ?_
  refine p_callV (As := [.int (oX O (t + 1))]) (rest := [.int R.1]) (hm f9 n9 s9 hM9) rfl lkL_93 imX11_pass seX11_pass rfl h50 rfl rfl (by decide) (Nat.le_of_ble_eq_true rfl) dL_law_721 (fun v8 G8 h8 => ?_) (fun q8 G8 h8 => absurd h8 pM_nx)
  obtain ⟨f8, n8, s8⟩ := G8
  obtain ⟨e0, hM8, e8, hn8, hs8⟩ := h8
  cases e0
  have hn8 : n8 ≤ n9 + 0 := hn8
  have hs8 : s8 ≤ s9 + 0 := hs8
  show bV O mL_law 160 724 [(4, .int (nI t)), (3, .ref 46), (2, .ref 50), (1, .ref 32), (0, .ref 0)] [.int R.1, .int R.1] (f8, n8, s8) Q
  refine r_icmp_eq (tgt := 1291) (by decide) dL_law_724 (fun _ => ?_) (fun h => absurd rfl h)
  obtain ⟨g, h46⟩ := h46
  exact kk f8 n8 s8 R.2 (XR_fr hX9 hj.1 (fun q hq => e8 q (by omega))) hM8 hj ⟨g, (e8 46 (by omega)).trans ((e9 46 (by omega)).trans h46)⟩ (by omega) (by omega)
set_option maxHeartbeats 1000000 in
theorem lw_c17 {O : bO} {Q : bR → bG → Prop} {f : bF} {n s t : Nat} {σ : SS} (hX : XR f σ) (hM : MP f σ) (hJ : JK σ) (h46 : ∃ g : Nat → Int64, f 46 = some (.inl (2, 1, .inr (.inl g)))) (hN : oN O ≤ 3072) (ht : t + 6 ≤ oN O) (kk : lw_go O Q n s t) : bV O mL_law 160 729 [(4, .int (nI t)), (3, .ref 46), (2, .ref 50), (1, .ref 32), (0, .ref 0)] [] (f, n, s) Q := by
  obtain ⟨bs, tl, mc, md, ip, dc, dr, ac, an, hs, sd, df, dfn, td, tr, ft, pl⟩ := σ
  have hx := x_ask (O := O) (d := 159) (n := n) (s := s) (x := oX O (t + 1)) (key := oX O (t + 2)) hX (JJ_JX hJ.1) (by decide)
  have hm := fun (f9 : bF) (n9 s9 : Nat) (h9 : MP f9 (bs, tl, mc, md, ip, dc, dr, ac, an, hs, sd, df, dfn, td, tr, ft, pl)) => m_ask (O := O) (d := 159) (n := n9) (s := s9) (x := oX O (t + 1)) (key := oX O (t + 2)) h9 hJ.1 (by decide)
  have hj := j_ask (x := oX O (t + 1)) (key := oX O (t + 2)) hJ
  generalize s_ask (bs, tl, mc, md, ip, dc, dr, ac, an, hs, sd, df, dfn, td, tr, ft, pl) (oX O (t + 1)) (oX O (t + 2)) = R at hx hm hj
  generalize (bs, tl, mc, md, ip, dc, dr, ac, an, hs, sd, df, dfn, td, tr, ft, pl) = σ at hX hM hJ hm
  refine r_aload_n (n := 1) (i := 1) 3 rfl rfl dL_law_729 ?_
  refine r_aload_n (n := 0) (i := 0) 4 rfl rfl dL_law_730 ?_
  refine r_iload (i := 4) 0 rfl dL_law_731 ?_
  refine r_iconst (v := 1) (by decide) dL_law_733 ?_
  refine r_iaddE (v := nI (t + 1)) (lw_ad (by decide +kernel)) dL_law_734 ?_
  refine r_sldN (t := t + 1) (by omega) hN dL_law_735 ?_
  refine r_aload_n (n := 0) (i := 0) 4 rfl rfl dL_law_736 ?_
  refine r_iload (i := 4) 0 rfl dL_law_737 ?_
  refine r_iconst (v := 2) (by decide) dL_law_739 ?_
  refine r_iaddE (v := nI (t + 2)) (lw_ad (by decide +kernel)) dL_law_740 ?_
  refine r_sldN (t := t + 2) (by omega) hN dL_law_741 ?_
  refine p_callV (As := [.int (oX O (t + 1)), .int (oX O (t + 2))]) (rest := []) hx rfl lkL_94 imX7_ask seX7_ask rfl hX.1 rfl rfl (by decide) (Nat.le_of_ble_eq_true rfl) dL_law_742 (fun v9 G9 h9 => ?_) (fun q9 G9 h9 => absurd h9 pX_nx)
  obtain ⟨f9, n9, s9⟩ := G9
  obtain ⟨e0, hX9, e9, hn9, hs9⟩ := h9
  cases e0
  have hn9 : n9 ≤ n + 2 := hn9
  have hs9 : s9 ≤ s + 17 := hs9
  have hM9 : MP f9 σ := MP_fr hM hJ.1 (fun q hq => e9 q (by omega))
  obtain ⟨fs50, h50⟩ := MP_50 hM9
  show bV O mL_law 160 745 [(4, .int (nI t)), (3, .ref 46), (2, .ref 50), (1, .ref 32), (0, .ref 0)] [.int R.1] (f9, n9, s9) Q
  refine r_aload_n (n := 2) (i := 2) 2 rfl rfl dL_law_745 ?_
  refine r_aload_n (n := 0) (i := 0) 4 rfl rfl dL_law_746 ?_
  refine r_iload (i := 4) 0 rfl dL_law_747 ?_
  refine r_iconst (v := 1) (by decide) dL_law_749 ?_
  refine r_iaddE (v := nI (t + 1)) (lw_ad (by decide +kernel)) dL_law_750 ?_
  refine r_sldN (t := t + 1) (by omega) hN dL_law_751 ?_
  refine r_aload_n (n := 0) (i := 0) 4 rfl rfl dL_law_752 ?_
  refine r_iload (i := 4) 0 rfl dL_law_753 ?_
  refine r_iconst (v := 2) (by decide) dL_law_755 ?_
  refine r_iaddE (v := nI (t + 2)) (lw_ad (by decide +kernel)) dL_law_756 ?_
  refine r_sldN (t := t + 2) (by omega) hN dL_law_757 ?_
  refine p_callV (As := [.int (oX O (t + 1)), .int (oX O (t + 2))]) (rest := [.int R.1]) (hm f9 n9 s9 hM9) rfl lkL_97 imX11_ask seX11_ask rfl h50 rfl rfl (by decide) (Nat.le_of_ble_eq_true rfl) dL_law_758 (fun v8 G8 h8 => ?_) (fun q8 G8 h8 => absurd h8 pM_nx)
  obtain ⟨f8, n8, s8⟩ := G8
  obtain ⟨e0, hM8, e8, hn8, hs8⟩ := h8
  cases e0
  have hn8 : n8 ≤ n9 + 0 := hn8
  have hs8 : s8 ≤ s9 + 0 := hs8
  show bV O mL_law 160 761 [(4, .int (nI t)), (3, .ref 46), (2, .ref 50), (1, .ref 32), (0, .ref 0)] [.int R.1, .int R.1] (f8, n8, s8) Q
  refine r_icmp_eq (tgt := 1291) (by decide) dL_law_761 (fun _ => ?_) (fun h => absurd rfl h)
  obtain ⟨g, h46⟩ := h46
  exact kk f8 n8 s8 R.2 (XR_fr hX9 hj.1 (fun q hq => e8 q (by omega))) hM8 hj ⟨g, (e8 46 (by omega)).trans ((e9 46 (by omega)).trans h46)⟩ (by omega) (by omega)
set_option maxHeartbeats 1000000 in
theorem lw_c18 {O : bO} {Q : bR → bG → Prop} {f : bF} {n s t : Nat} {σ : SS} (hX : XR f σ) (hM : MP f σ) (hJ : JK σ) (h46 : ∃ g : Nat → Int64, f 46 = some (.inl (2, 1, .inr (.inl g)))) (hN : oN O ≤ 3072) (ht : t + 6 ≤ oN O) (kk : lw_go O Q n s t) : bV O mL_law 160 766 [(4, .int (nI t)), (3, .ref 46), (2, .ref 50), (1, .ref 32), (0, .ref 0)] [] (f, n, s) Q := by
  obtain ⟨bs, tl, mc, md, ip, dc, dr, ac, an, hs, sd, df, dfn, td, tr, ft, pl⟩ := σ
  have hx := x_kept (O := O) (d := 159) (n := n) (s := s) (x := oX O (t + 1)) (w := oX O (t + 2)) hX (JJ_JX hJ.1) (by decide)
  have hm := fun (f9 : bF) (n9 s9 : Nat) (h9 : MP f9 (bs, tl, mc, md, ip, dc, dr, ac, an, hs, sd, df, dfn, td, tr, ft, pl)) => m_kept (O := O) (d := 159) (n := n9) (s := s9) (x := oX O (t + 1)) (w := oX O (t + 2)) h9 hJ.1 (by decide)
  have hj := j_kept (x := oX O (t + 1)) (w := oX O (t + 2)) hJ
  generalize s_kept (bs, tl, mc, md, ip, dc, dr, ac, an, hs, sd, df, dfn, td, tr, ft, pl) (oX O (t + 1)) (oX O (t + 2)) = R at hx hm hj
  generalize (bs, tl, mc, md, ip, dc, dr, ac, an, hs, sd, df, dfn, td, tr, ft, pl) = σ at hX hM hJ hm
  refine r_aload_n (n := 1) (i := 1) 3 rfl rfl dL_law_766 ?_
  refine r_aload_n (n := 0) (i := 0) 4 rfl rfl dL_law_767 ?_
  refine r_iload (i := 4) 0 rfl dL_law_768 ?_
  refine r_iconst (v := 1) (by decide) dL_law_770 ?_
  refine r_iaddE (v := nI (t + 1)) (lw_ad (by decide +kernel)) dL_law_771 ?_
  refine r_sldN (t := t + 1) (by omega) hN dL_law_772 ?_
  refine r_aload_n (n := 0) (i := 0) 4 rfl rfl dL_law_773 ?_
  refine r_iload (i := 4) 0 rfl dL_law_774 ?_
  refine r_iconst (v := 2) (by decide) dL_law_776 ?_
  refine r_iaddE (v := nI (t + 2)) (lw_ad (by decide +kernel)) dL_law_777 ?_
  refine r_sldN (t := t + 2) (by omega) hN dL_law_778 ?_
  refine p_callV (As := [.int (oX O (t + 1)), .int (oX O (t + 2))]) (rest := []) hx rfl lkL_98 imX7_kept seX7_kept rfl hX.1 rfl rfl (by decide) (Nat.le_of_ble_eq_true rfl) dL_law_779 (fun v9 G9 h9 => ?_) (fun q9 G9 h9 => absurd h9 pX_nx)
  obtain ⟨f9, n9, s9⟩ := G9
  obtain ⟨e0, hX9, e9, hn9, hs9⟩ := h9
  cases e0
  have hn9 : n9 ≤ n + 0 := hn9
  have hs9 : s9 ≤ s + 0 := hs9
  have hM9 : MP f9 σ := MP_fr hM hJ.1 (fun q hq => e9 q (by omega))
  obtain ⟨fs50, h50⟩ := MP_50 hM9
  show bV O mL_law 160 782 [(4, .int (nI t)), (3, .ref 46), (2, .ref 50), (1, .ref 32), (0, .ref 0)] [.int R.1] (f9, n9, s9) Q
  refine r_aload_n (n := 2) (i := 2) 2 rfl rfl dL_law_782 ?_
  refine r_aload_n (n := 0) (i := 0) 4 rfl rfl dL_law_783 ?_
  refine r_iload (i := 4) 0 rfl dL_law_784 ?_
  refine r_iconst (v := 1) (by decide) dL_law_786 ?_
  refine r_iaddE (v := nI (t + 1)) (lw_ad (by decide +kernel)) dL_law_787 ?_
  refine r_sldN (t := t + 1) (by omega) hN dL_law_788 ?_
  refine r_aload_n (n := 0) (i := 0) 4 rfl rfl dL_law_789 ?_
  refine r_iload (i := 4) 0 rfl dL_law_790 ?_
  refine r_iconst (v := 2) (by decide) dL_law_792 ?_
  refine r_iaddE (v := nI (t + 2)) (lw_ad (by decide +kernel)) dL_law_793 ?_
  refine r_sldN (t := t + 2) (by omega) hN dL_law_794 ?_
  refine p_callV (As := [.int (oX O (t + 1)), .int (oX O (t + 2))]) (rest := [.int R.1]) (hm f9 n9 s9 hM9) rfl lkL_101 imX11_kept seX11_kept rfl h50 rfl rfl (by decide) (Nat.le_of_ble_eq_true rfl) dL_law_795 (fun v8 G8 h8 => ?_) (fun q8 G8 h8 => absurd h8 pM_nx)
  obtain ⟨f8, n8, s8⟩ := G8
  obtain ⟨e0, hM8, e8, hn8, hs8⟩ := h8
  cases e0
  have hn8 : n8 ≤ n9 + 0 := hn8
  have hs8 : s8 ≤ s9 + 0 := hs8
  show bV O mL_law 160 798 [(4, .int (nI t)), (3, .ref 46), (2, .ref 50), (1, .ref 32), (0, .ref 0)] [.int R.1, .int R.1] (f8, n8, s8) Q
  refine r_icmp_eq (tgt := 1291) (by decide) dL_law_798 (fun _ => ?_) (fun h => absurd rfl h)
  obtain ⟨g, h46⟩ := h46
  exact kk f8 n8 s8 R.2 (XR_fr hX9 hj.1 (fun q hq => e8 q (by omega))) hM8 hj ⟨g, (e8 46 (by omega)).trans ((e9 46 (by omega)).trans h46)⟩ (by omega) (by omega)
set_option maxHeartbeats 1000000 in
theorem lw_c19 {O : bO} {Q : bR → bG → Prop} {f : bF} {n s t : Nat} {σ : SS} (hX : XR f σ) (hM : MP f σ) (hJ : JK σ) (h46 : ∃ g : Nat → Int64, f 46 = some (.inl (2, 1, .inr (.inl g)))) (hN : oN O ≤ 3072) (ht : t + 6 ≤ oN O) (kk : lw_go O Q n s t) : bV O mL_law 160 803 [(4, .int (nI t)), (3, .ref 46), (2, .ref 50), (1, .ref 32), (0, .ref 0)] [] (f, n, s) Q := by
  obtain ⟨bs, tl, mc, md, ip, dc, dr, ac, an, hs, sd, df, dfn, td, tr, ft, pl⟩ := σ
  have hx := x_answer (O := O) (d := 159) (n := n) (s := s) (x := oX O (t + 1)) (w := oX O (t + 2)) hX (JJ_JX hJ.1) (by decide)
  have hm := fun (f9 : bF) (n9 s9 : Nat) (h9 : MP f9 (bs, tl, mc, md, ip, dc, dr, ac, an, hs, sd, df, dfn, td, tr, ft, pl)) => m_answer (O := O) (d := 159) (n := n9) (s := s9) (x := oX O (t + 1)) (w := oX O (t + 2)) h9 hJ.1 (by decide)
  have hj := j_answer (x := oX O (t + 1)) (w := oX O (t + 2)) hJ
  generalize s_answer (bs, tl, mc, md, ip, dc, dr, ac, an, hs, sd, df, dfn, td, tr, ft, pl) (oX O (t + 1)) (oX O (t + 2)) = R at hx hm hj
  generalize (bs, tl, mc, md, ip, dc, dr, ac, an, hs, sd, df, dfn, td, tr, ft, pl) = σ at hX hM hJ hm
  refine r_aload_n (n := 1) (i := 1) 3 rfl rfl dL_law_803 ?_
  refine r_aload_n (n := 0) (i := 0) 4 rfl rfl dL_law_804 ?_
  refine r_iload (i := 4) 0 rfl dL_law_805 ?_
  refine r_iconst (v := 1) (by decide) dL_law_807 ?_
  refine r_iaddE (v := nI (t + 1)) (lw_ad (by decide +kernel)) dL_law_808 ?_
  refine r_sldN (t := t + 1) (by omega) hN dL_law_809 ?_
  refine r_aload_n (n := 0) (i := 0) 4 rfl rfl dL_law_810 ?_
  refine r_iload (i := 4) 0 rfl dL_law_811 ?_
  refine r_iconst (v := 2) (by decide) dL_law_813 ?_
  refine r_iaddE (v := nI (t + 2)) (lw_ad (by decide +kernel)) dL_law_814 ?_
  refine r_sldN (t := t + 2) (by omega) hN dL_law_815 ?_
  refine p_callV (As := [.int (oX O (t + 1)), .int (oX O (t + 2))]) (rest := []) hx rfl lkL_102 imX7_answer seX7_answer rfl hX.1 rfl rfl (by decide) (Nat.le_of_ble_eq_true rfl) dL_law_816 (fun v9 G9 h9 => ?_) (fun q9 G9 h9 => absurd h9 pX_nx)
  obtain ⟨f9, n9, s9⟩ := G9
  obtain ⟨e0, hX9, e9, hn9, hs9⟩ := h9
  cases e0
  have hn9 : n9 ≤ n + 0 := hn9
  have hs9 : s9 ≤ s + 0 := hs9
  have hM9 : MP f9 σ := MP_fr hM hJ.1 (fun q hq => e9 q (by omega))
  obtain ⟨fs50, h50⟩ := MP_50 hM9
  show bV O mL_law 160 819 [(4, .int (nI t)), (3, .ref 46), (2, .ref 50), (1, .ref 32), (0, .ref 0)] [.int R.1] (f9, n9, s9) Q
  refine r_aload_n (n := 2) (i := 2) 2 rfl rfl dL_law_819 ?_
  refine r_aload_n (n := 0) (i := 0) 4 rfl rfl dL_law_820 ?_
  refine r_iload (i := 4) 0 rfl dL_law_821 ?_
  refine r_iconst (v := 1) (by decide) dL_law_823 ?_
  refine r_iaddE (v := nI (t + 1)) (lw_ad (by decide +kernel)) dL_law_824 ?_
  refine r_sldN (t := t + 1) (by omega) hN dL_law_825 ?_
  refine r_aload_n (n := 0) (i := 0) 4 rfl rfl dL_law_826 ?_
  refine r_iload (i := 4) 0 rfl dL_law_827 ?_
  refine r_iconst (v := 2) (by decide) dL_law_829 ?_
  refine r_iaddE (v := nI (t + 2)) (lw_ad (by decide +kernel)) dL_law_830 ?_
  refine r_sldN (t := t + 2) (by omega) hN dL_law_831 ?_
  refine p_callV (As := [.int (oX O (t + 1)), .int (oX O (t + 2))]) (rest := [.int R.1]) (hm f9 n9 s9 hM9) rfl lkL_105 imX11_answer seX11_answer rfl h50 rfl rfl (by decide) (Nat.le_of_ble_eq_true rfl) dL_law_832 (fun v8 G8 h8 => ?_) (fun q8 G8 h8 => absurd h8 pM_nx)
  obtain ⟨f8, n8, s8⟩ := G8
  obtain ⟨e0, hM8, e8, hn8, hs8⟩ := h8
  cases e0
  have hn8 : n8 ≤ n9 + 0 := hn8
  have hs8 : s8 ≤ s9 + 0 := hs8
  show bV O mL_law 160 835 [(4, .int (nI t)), (3, .ref 46), (2, .ref 50), (1, .ref 32), (0, .ref 0)] [.int R.1, .int R.1] (f8, n8, s8) Q
  refine r_icmp_eq (tgt := 1291) (by decide) dL_law_835 (fun _ => ?_) (fun h => absurd rfl h)
  obtain ⟨g, h46⟩ := h46
  exact kk f8 n8 s8 R.2 (XR_fr hX9 hj.1 (fun q hq => e8 q (by omega))) hM8 hj ⟨g, (e8 46 (by omega)).trans ((e9 46 (by omega)).trans h46)⟩ (by omega) (by omega)
set_option maxHeartbeats 1000000 in
theorem lw_c20 {O : bO} {Q : bR → bG → Prop} {f : bF} {n s t : Nat} {σ : SS} (hX : XR f σ) (hM : MP f σ) (hJ : JK σ) (h46 : ∃ g : Nat → Int64, f 46 = some (.inl (2, 1, .inr (.inl g)))) (hN : oN O ≤ 3072) (ht : t + 6 ≤ oN O) (kk : lw_go O Q n s t) : bV O mL_law 160 840 [(4, .int (nI t)), (3, .ref 46), (2, .ref 50), (1, .ref 32), (0, .ref 0)] [] (f, n, s) Q := by
  obtain ⟨bs, tl, mc, md, ip, dc, dr, ac, an, hs, sd, df, dfn, td, tr, ft, pl⟩ := σ
  have hx := x_again (O := O) (d := 159) (n := n) (s := s) (x := oX O (t + 1)) (m := oX O (t + 2)) hX (JJ_JX hJ.1) (by decide)
  have hm := fun (f9 : bF) (n9 s9 : Nat) (h9 : MP f9 (bs, tl, mc, md, ip, dc, dr, ac, an, hs, sd, df, dfn, td, tr, ft, pl)) => m_again (O := O) (d := 159) (n := n9) (s := s9) (x := oX O (t + 1)) (m := oX O (t + 2)) h9 hJ.1 (by decide)
  have hj := j_again (x := oX O (t + 1)) (m := oX O (t + 2)) hJ
  generalize s_again (bs, tl, mc, md, ip, dc, dr, ac, an, hs, sd, df, dfn, td, tr, ft, pl) (oX O (t + 1)) (oX O (t + 2)) = R at hx hm hj
  generalize (bs, tl, mc, md, ip, dc, dr, ac, an, hs, sd, df, dfn, td, tr, ft, pl) = σ at hX hM hJ hm
  refine r_aload_n (n := 1) (i := 1) 3 rfl rfl dL_law_840 ?_
  refine r_aload_n (n := 0) (i := 0) 4 rfl rfl dL_law_841 ?_
  refine r_iload (i := 4) 0 rfl dL_law_842 ?_
  refine r_iconst (v := 1) (by decide) dL_law_844 ?_
  refine r_iaddE (v := nI (t + 1)) (lw_ad (by decide +kernel)) dL_law_845 ?_
  refine r_sldN (t := t + 1) (by omega) hN dL_law_846 ?_
  refine r_aload_n (n := 0) (i := 0) 4 rfl rfl dL_law_847 ?_
  refine r_iload (i := 4) 0 rfl dL_law_848 ?_
  refine r_iconst (v := 2) (by decide) dL_law_850 ?_
  refine r_iaddE (v := nI (t + 2)) (lw_ad (by decide +kernel)) dL_law_851 ?_
  refine r_sldN (t := t + 2) (by omega) hN dL_law_852 ?_
  refine p_callV (As := [.int (oX O (t + 1)), .int (oX O (t + 2))]) (rest := []) hx rfl lkL_106 imX7_again seX7_again rfl hX.1 rfl rfl (by decide) (Nat.le_of_ble_eq_true rfl) dL_law_853 (fun v9 G9 h9 => ?_) (fun q9 G9 h9 => absurd h9 pX_nx)
  obtain ⟨f9, n9, s9⟩ := G9
  obtain ⟨e0, hX9, e9, hn9, hs9⟩ := h9
  cases e0
  have hn9 : n9 ≤ n + 0 := hn9
  have hs9 : s9 ≤ s + 0 := hs9
  have hM9 : MP f9 σ := MP_fr hM hJ.1 (fun q hq => e9 q (by omega))
  obtain ⟨fs50, h50⟩ := MP_50 hM9
  show bV O mL_law 160 856 [(4, .int (nI t)), (3, .ref 46), (2, .ref 50), (1, .ref 32), (0, .ref 0)] [.int R.1] (f9, n9, s9) Q
  refine r_aload_n (n := 2) (i := 2) 2 rfl rfl dL_law_856 ?_
  refine r_aload_n (n := 0) (i := 0) 4 rfl rfl dL_law_857 ?_
  refine r_iload (i := 4) 0 rfl dL_law_858 ?_
  refine r_iconst (v := 1) (by decide) dL_law_860 ?_
  refine r_iaddE (v := nI (t + 1)) (lw_ad (by decide +kernel)) dL_law_861 ?_
  refine r_sldN (t := t + 1) (by omega) hN dL_law_862 ?_
  refine r_aload_n (n := 0) (i := 0) 4 rfl rfl dL_law_863 ?_
  refine r_iload (i := 4) 0 rfl dL_law_864 ?_
  refine r_iconst (v := 2) (by decide) dL_law_866 ?_
  refine r_iaddE (v := nI (t + 2)) (lw_ad (by decide +kernel)) dL_law_867 ?_
  refine r_sldN (t := t + 2) (by omega) hN dL_law_868 ?_
  refine p_callV (As := [.int (oX O (t + 1)), .int (oX O (t + 2))]) (rest := [.int R.1]) (hm f9 n9 s9 hM9) rfl lkL_109 imX11_again seX11_again rfl h50 rfl rfl (by decide) (Nat.le_of_ble_eq_true rfl) dL_law_869 (fun v8 G8 h8 => ?_) (fun q8 G8 h8 => absurd h8 pM_nx)
  obtain ⟨f8, n8, s8⟩ := G8
  obtain ⟨e0, hM8, e8, hn8, hs8⟩ := h8
  cases e0
  have hn8 : n8 ≤ n9 + 0 := hn8
  have hs8 : s8 ≤ s9 + 0 := hs8
  show bV O mL_law 160 872 [(4, .int (nI t)), (3, .ref 46), (2, .ref 50), (1, .ref 32), (0, .ref 0)] [.int R.1, .int R.1] (f8, n8, s8) Q
  refine r_icmp_eq (tgt := 1291) (by decide) dL_law_872 (fun _ => ?_) (fun h => absurd rfl h)
  obtain ⟨g, h46⟩ := h46
  exact kk f8 n8 s8 R.2 (XR_fr hX9 hj.1 (fun q hq => e8 q (by omega))) hM8 hj ⟨g, (e8 46 (by omega)).trans ((e9 46 (by omega)).trans h46)⟩ (by omega) (by omega)
set_option maxHeartbeats 1000000 in
theorem lw_c21 {O : bO} {Q : bR → bG → Prop} {f : bF} {n s t : Nat} {σ : SS} (hX : XR f σ) (hM : MP f σ) (hJ : JK σ) (h46 : ∃ g : Nat → Int64, f 46 = some (.inl (2, 1, .inr (.inl g)))) (hN : oN O ≤ 3072) (ht : t + 6 ≤ oN O) (kk : lw_go O Q n s t) : bV O mL_law 160 877 [(4, .int (nI t)), (3, .ref 46), (2, .ref 50), (1, .ref 32), (0, .ref 0)] [] (f, n, s) Q := by
  obtain ⟨bs, tl, mc, md, ip, dc, dr, ac, an, hs, sd, df, dfn, td, tr, ft, pl⟩ := σ
  have hx := x_truth (O := O) (d := 159) (n := n) (s := s) (x := oX O (t + 1)) (v := oX O (t + 2)) hX (JJ_JX hJ.1) (by decide)
  have hm := fun (f9 : bF) (n9 s9 : Nat) (h9 : MP f9 (bs, tl, mc, md, ip, dc, dr, ac, an, hs, sd, df, dfn, td, tr, ft, pl)) => m_truth (O := O) (d := 159) (n := n9) (s := s9) (x := oX O (t + 1)) (v := oX O (t + 2)) h9 hJ.1 (by decide)
  have hj := j_truth (x := oX O (t + 1)) (v := oX O (t + 2)) hJ
  generalize s_truth (bs, tl, mc, md, ip, dc, dr, ac, an, hs, sd, df, dfn, td, tr, ft, pl) (oX O (t + 1)) (oX O (t + 2)) = R at hx hm hj
  generalize (bs, tl, mc, md, ip, dc, dr, ac, an, hs, sd, df, dfn, td, tr, ft, pl) = σ at hX hM hJ hm
  refine r_aload_n (n := 1) (i := 1) 3 rfl rfl dL_law_877 ?_
  refine r_aload_n (n := 0) (i := 0) 4 rfl rfl dL_law_878 ?_
  refine r_iload (i := 4) 0 rfl dL_law_879 ?_
  refine r_iconst (v := 1) (by decide) dL_law_881 ?_
  refine r_iaddE (v := nI (t + 1)) (lw_ad (by decide +kernel)) dL_law_882 ?_
  refine r_sldN (t := t + 1) (by omega) hN dL_law_883 ?_
  refine r_aload_n (n := 0) (i := 0) 4 rfl rfl dL_law_884 ?_
  refine r_iload (i := 4) 0 rfl dL_law_885 ?_
  refine r_iconst (v := 2) (by decide) dL_law_887 ?_
  refine r_iaddE (v := nI (t + 2)) (lw_ad (by decide +kernel)) dL_law_888 ?_
  refine r_sldN (t := t + 2) (by omega) hN dL_law_889 ?_
  refine p_callV (As := [.int (oX O (t + 1)), .int (oX O (t + 2))]) (rest := []) hx rfl lkL_110 imX7_truth seX7_truth rfl hX.1 rfl rfl (by decide) (Nat.le_of_ble_eq_true rfl) dL_law_890 (fun v9 G9 h9 => ?_) (fun q9 G9 h9 => absurd h9 pX_nx)
  obtain ⟨f9, n9, s9⟩ := G9
  obtain ⟨e0, hX9, e9, hn9, hs9⟩ := h9
  cases e0
  have hn9 : n9 ≤ n + 0 := hn9
  have hs9 : s9 ≤ s + 0 := hs9
  have hM9 : MP f9 σ := MP_fr hM hJ.1 (fun q hq => e9 q (by omega))
  obtain ⟨fs50, h50⟩ := MP_50 hM9
  show bV O mL_law 160 893 [(4, .int (nI t)), (3, .ref 46), (2, .ref 50), (1, .ref 32), (0, .ref 0)] [.int R.1] (f9, n9, s9) Q
  refine r_aload_n (n := 2) (i := 2) 2 rfl rfl dL_law_893 ?_
  refine r_aload_n (n := 0) (i := 0) 4 rfl rfl dL_law_894 ?_
  refine r_iload (i := 4) 0 rfl dL_law_895 ?_
  refine r_iconst (v := 1) (by decide) dL_law_897 ?_
  refine r_iaddE (v := nI (t + 1)) (lw_ad (by decide +kernel)) dL_law_898 ?_
  refine r_sldN (t := t + 1) (by omega) hN dL_law_899 ?_
  refine r_aload_n (n := 0) (i := 0) 4 rfl rfl dL_law_900 ?_
  refine r_iload (i := 4) 0 rfl dL_law_901 ?_
  refine r_iconst (v := 2) (by decide) dL_law_903 ?_
  refine r_iaddE (v := nI (t + 2)) (lw_ad (by decide +kernel)) dL_law_904 ?_
  refine r_sldN (t := t + 2) (by omega) hN dL_law_905 ?_
  refine p_callV (As := [.int (oX O (t + 1)), .int (oX O (t + 2))]) (rest := [.int R.1]) (hm f9 n9 s9 hM9) rfl lkL_113 imX11_truth seX11_truth rfl h50 rfl rfl (by decide) (Nat.le_of_ble_eq_true rfl) dL_law_906 (fun v8 G8 h8 => ?_) (fun q8 G8 h8 => absurd h8 pM_nx)
  obtain ⟨f8, n8, s8⟩ := G8
  obtain ⟨e0, hM8, e8, hn8, hs8⟩ := h8
  cases e0
  have hn8 : n8 ≤ n9 + 0 := hn8
  have hs8 : s8 ≤ s9 + 0 := hs8
  show bV O mL_law 160 909 [(4, .int (nI t)), (3, .ref 46), (2, .ref 50), (1, .ref 32), (0, .ref 0)] [.int R.1, .int R.1] (f8, n8, s8) Q
  refine r_icmp_eq (tgt := 1291) (by decide) dL_law_909 (fun _ => ?_) (fun h => absurd rfl h)
  obtain ⟨g, h46⟩ := h46
  exact kk f8 n8 s8 R.2 (XR_fr hX9 hj.1 (fun q hq => e8 q (by omega))) hM8 hj ⟨g, (e8 46 (by omega)).trans ((e9 46 (by omega)).trans h46)⟩ (by omega) (by omega)
set_option maxHeartbeats 1000000 in
theorem lw_c22 {O : bO} {Q : bR → bG → Prop} {f : bF} {n s t : Nat} {σ : SS} (hX : XR f σ) (hM : MP f σ) (hJ : JK σ) (h46 : ∃ g : Nat → Int64, f 46 = some (.inl (2, 1, .inr (.inl g)))) (hN : oN O ≤ 3072) (ht : t + 6 ≤ oN O) (kk : lw_go O Q n s t) : bV O mL_law 160 914 [(4, .int (nI t)), (3, .ref 46), (2, .ref 50), (1, .ref 32), (0, .ref 0)] [] (f, n, s) Q := by
  obtain ⟨bs, tl, mc, md, ip, dc, dr, ac, an, hs, sd, df, dfn, td, tr, ft, pl⟩ := σ
  have hx := x_side (O := O) (d := 159) (n := n) (s := s) (x := oX O (t + 1)) hX (JJ_JX hJ.1) (by decide)
  have hm := fun (f9 : bF) (n9 s9 : Nat) (h9 : MP f9 (bs, tl, mc, md, ip, dc, dr, ac, an, hs, sd, df, dfn, td, tr, ft, pl)) => m_side (O := O) (d := 159) (n := n9) (s := s9) (x := oX O (t + 1)) h9 hJ.1 (by decide)
  have hj := j_side (x := oX O (t + 1)) hJ
  generalize s_side (bs, tl, mc, md, ip, dc, dr, ac, an, hs, sd, df, dfn, td, tr, ft, pl) (oX O (t + 1)) = R at hx hm hj
  generalize (bs, tl, mc, md, ip, dc, dr, ac, an, hs, sd, df, dfn, td, tr, ft, pl) = σ at hX hM hJ hm
  refine r_aload_n (n := 1) (i := 1) 3 rfl rfl dL_law_914 ?_
  refine r_aload_n (n := 0) (i := 0) 4 rfl rfl dL_law_915 ?_
  refine r_iload (i := 4) 0 rfl dL_law_916 ?_
  refine r_iconst (v := 1) (by decide) dL_law_918 ?_
  refine r_iaddE (v := nI (t + 1)) (lw_ad (by decide +kernel)) dL_law_919 ?_
  refine r_sldN (t := t + 1) (by omega) hN dL_law_920 ?_
  refine p_callV (As := [.int (oX O (t + 1))]) (rest := []) hx rfl lkL_114 imX7_side seX7_side rfl hX.1 rfl rfl (by decide) (Nat.le_of_ble_eq_true rfl) dL_law_921 (fun v9 G9 h9 => ?_) (fun q9 G9 h9 => absurd h9 pX_nx)
  obtain ⟨f9, n9, s9⟩ := G9
  obtain ⟨e0, hX9, e9, hn9, hs9⟩ := h9
  cases e0
  have hn9 : n9 ≤ n + 0 := hn9
  have hs9 : s9 ≤ s + 0 := hs9
  have hM9 : MP f9 σ := MP_fr hM hJ.1 (fun q hq => e9 q (by omega))
  obtain ⟨fs50, h50⟩ := MP_50 hM9
  show bV O mL_law 160 924 [(4, .int (nI t)), (3, .ref 46), (2, .ref 50), (1, .ref 32), (0, .ref 0)] [.int R.1] (f9, n9, s9) Q
  refine r_aload_n (n := 2) (i := 2) 2 rfl rfl dL_law_924 ?_
  refine r_aload_n (n := 0) (i := 0) 4 rfl rfl dL_law_925 ?_
  refine r_iload (i := 4) 0 rfl dL_law_926 ?_
  refine r_iconst (v := 1) (by decide) dL_law_928 ?_
  refine r_iaddE (v := nI (t + 1)) (lw_ad (by decide +kernel)) dL_law_929 ?_
  refine r_sldN (t := t + 1) (by omega) hN dL_law_930 ?_
  refine p_callV (As := [.int (oX O (t + 1))]) (rest := [.int R.1]) (hm f9 n9 s9 hM9) rfl lkL_117 imX11_side seX11_side rfl h50 rfl rfl (by decide) (Nat.le_of_ble_eq_true rfl) dL_law_931 (fun v8 G8 h8 => ?_) (fun q8 G8 h8 => absurd h8 pM_nx)
  obtain ⟨f8, n8, s8⟩ := G8
  obtain ⟨e0, hM8, e8, hn8, hs8⟩ := h8
  cases e0
  have hn8 : n8 ≤ n9 + 0 := hn8
  have hs8 : s8 ≤ s9 + 0 := hs8
  show bV O mL_law 160 934 [(4, .int (nI t)), (3, .ref 46), (2, .ref 50), (1, .ref 32), (0, .ref 0)] [.int R.1, .int R.1] (f8, n8, s8) Q
  refine r_icmp_eq (tgt := 1291) (by decide) dL_law_934 (fun _ => ?_) (fun h => absurd rfl h)
  obtain ⟨g, h46⟩ := h46
  exact kk f8 n8 s8 R.2 (XR_fr hX9 hj.1 (fun q hq => e8 q (by omega))) hM8 hj ⟨g, (e8 46 (by omega)).trans ((e9 46 (by omega)).trans h46)⟩ (by omega) (by omega)
set_option maxHeartbeats 1000000 in
theorem lw_c23 {O : bO} {Q : bR → bG → Prop} {f : bF} {n s t : Nat} {σ : SS} (hX : XR f σ) (hM : MP f σ) (hJ : JK σ) (h46 : ∃ g : Nat → Int64, f 46 = some (.inl (2, 1, .inr (.inl g)))) (hN : oN O ≤ 3072) (ht : t + 6 ≤ oN O) (kk : lw_go O Q n s t) : bV O mL_law 160 939 [(4, .int (nI t)), (3, .ref 46), (2, .ref 50), (1, .ref 32), (0, .ref 0)] [] (f, n, s) Q := by
  obtain ⟨bs, tl, mc, md, ip, dc, dr, ac, an, hs, sd, df, dfn, td, tr, ft, pl⟩ := σ
  have hx := x_sides (O := O) (d := 159) (n := n) (s := s) (w := oX O (t + 1)) hX (JJ_JX hJ.1) (by decide)
  have hm := fun (f9 : bF) (n9 s9 : Nat) (h9 : MP f9 (bs, tl, mc, md, ip, dc, dr, ac, an, hs, sd, df, dfn, td, tr, ft, pl)) => m_sides (O := O) (d := 159) (n := n9) (s := s9) (w := oX O (t + 1)) h9 hJ.1 (by decide)
  have hj := j_sides (w := oX O (t + 1)) hJ
  generalize s_sides (bs, tl, mc, md, ip, dc, dr, ac, an, hs, sd, df, dfn, td, tr, ft, pl) (oX O (t + 1)) = R at hx hm hj
  generalize (bs, tl, mc, md, ip, dc, dr, ac, an, hs, sd, df, dfn, td, tr, ft, pl) = σ at hX hM hJ hm
  refine r_aload_n (n := 1) (i := 1) 3 rfl rfl dL_law_939 ?_
  refine r_aload_n (n := 0) (i := 0) 4 rfl rfl dL_law_940 ?_
  refine r_iload (i := 4) 0 rfl dL_law_941 ?_
  refine r_iconst (v := 1) (by decide) dL_law_943 ?_
  refine r_iaddE (v := nI (t + 1)) (lw_ad (by decide +kernel)) dL_law_944 ?_
  refine r_sldN (t := t + 1) (by omega) hN dL_law_945 ?_
  refine p_callV (As := [.int (oX O (t + 1))]) (rest := []) hx rfl lkL_118 imX7_sides seX7_sides rfl hX.1 rfl rfl (by decide) (Nat.le_of_ble_eq_true rfl) dL_law_946 (fun v9 G9 h9 => ?_) (fun q9 G9 h9 => absurd h9 pX_nx)
  obtain ⟨f9, n9, s9⟩ := G9
  obtain ⟨e0, hX9, e9, hn9, hs9⟩ := h9
  cases e0
  have hn9 : n9 ≤ n + 0 := hn9
  have hs9 : s9 ≤ s + 0 := hs9
  have hM9 : MP f9 σ := MP_fr hM hJ.1 (fun q hq => e9 q (by omega))
  obtain ⟨fs50, h50⟩ := MP_50 hM9
  show bV O mL_law 160 949 [(4, .int (nI t)), (3, .ref 46), (2, .ref 50), (1, .ref 32), (0, .ref 0)] [.int R.1] (f9, n9, s9) Q
  refine r_aload_n (n := 2) (i := 2) 2 rfl rfl dL_law_949 ?_
  refine r_aload_n (n := 0) (i := 0) 4 rfl rfl dL_law_950 ?_
  refine r_iload (i := 4) 0 rfl dL_law_951 ?_
  refine r_iconst (v := 1) (by decide) dL_law_953 ?_
  refine r_iaddE (v := nI (t + 1)) (lw_ad (by decide +kernel)) dL_law_954 ?_
  refine r_sldN (t := t + 1) (by omega) hN dL_law_955 ?_
  refine p_callV (As := [.int (oX O (t + 1))]) (rest := [.int R.1]) (hm f9 n9 s9 hM9) rfl lkL_121 imX11_sides seX11_sides rfl h50 rfl rfl (by decide) (Nat.le_of_ble_eq_true rfl) dL_law_956 (fun v8 G8 h8 => ?_) (fun q8 G8 h8 => absurd h8 pM_nx)
  obtain ⟨f8, n8, s8⟩ := G8
  obtain ⟨e0, hM8, e8, hn8, hs8⟩ := h8
  cases e0
  have hn8 : n8 ≤ n9 + 0 := hn8
  have hs8 : s8 ≤ s9 + 0 := hs8
  show bV O mL_law 160 959 [(4, .int (nI t)), (3, .ref 46), (2, .ref 50), (1, .ref 32), (0, .ref 0)] [.int R.1, .int R.1] (f8, n8, s8) Q
  refine r_icmp_eq (tgt := 1291) (by decide) dL_law_959 (fun _ => ?_) (fun h => absurd rfl h)
  obtain ⟨g, h46⟩ := h46
  exact kk f8 n8 s8 R.2 (XR_fr hX9 hj.1 (fun q hq => e8 q (by omega))) hM8 hj ⟨g, (e8 46 (by omega)).trans ((e9 46 (by omega)).trans h46)⟩ (by omega) (by omega)
set_option maxHeartbeats 1000000 in
theorem lw_c24 {O : bO} {Q : bR → bG → Prop} {f : bF} {n s t : Nat} {σ : SS} (hX : XR f σ) (hM : MP f σ) (hJ : JK σ) (h46 : ∃ g : Nat → Int64, f 46 = some (.inl (2, 1, .inr (.inl g)))) (hN : oN O ≤ 3072) (ht : t + 6 ≤ oN O) (kk : lw_go O Q n s t) : bV O mL_law 160 964 [(4, .int (nI t)), (3, .ref 46), (2, .ref 50), (1, .ref 32), (0, .ref 0)] [] (f, n, s) Q := by
  obtain ⟨bs, tl, mc, md, ip, dc, dr, ac, an, hs, sd, df, dfn, td, tr, ft, pl⟩ := σ
  have hx := x_expect (O := O) (d := 159) (n := n) (s := s) (x := oX O (t + 1)) (k := oX O (t + 2)) (b := oX O (t + 3)) (v := oX O (t + 4)) hX (JJ_JX hJ.1) (by decide)
  have hm := fun (f9 : bF) (n9 s9 : Nat) (h9 : MP f9 (bs, tl, mc, md, ip, dc, dr, ac, an, hs, sd, df, dfn, td, tr, ft, pl)) => m_expect (O := O) (d := 159) (n := n9) (s := s9) (x := oX O (t + 1)) (k := oX O (t + 2)) (b := oX O (t + 3)) (v := oX O (t + 4)) h9 hJ.1 (by decide)
  have hj := j_expect (x := oX O (t + 1)) (k := oX O (t + 2)) (b := oX O (t + 3)) (v := oX O (t + 4)) hJ
  generalize s_expect (bs, tl, mc, md, ip, dc, dr, ac, an, hs, sd, df, dfn, td, tr, ft, pl) (oX O (t + 1)) (oX O (t + 2)) (oX O (t + 3)) (oX O (t + 4)) = R at hx hm hj
  generalize (bs, tl, mc, md, ip, dc, dr, ac, an, hs, sd, df, dfn, td, tr, ft, pl) = σ at hX hM hJ hm
  refine r_aload_n (n := 1) (i := 1) 3 rfl rfl dL_law_964 ?_
  refine r_aload_n (n := 0) (i := 0) 4 rfl rfl dL_law_965 ?_
  refine r_iload (i := 4) 0 rfl dL_law_966 ?_
  refine r_iconst (v := 1) (by decide) dL_law_968 ?_
  refine r_iaddE (v := nI (t + 1)) (lw_ad (by decide +kernel)) dL_law_969 ?_
  refine r_sldN (t := t + 1) (by omega) hN dL_law_970 ?_
  refine r_aload_n (n := 0) (i := 0) 4 rfl rfl dL_law_971 ?_
  refine r_iload (i := 4) 0 rfl dL_law_972 ?_
  refine r_iconst (v := 2) (by decide) dL_law_974 ?_
  refine r_iaddE (v := nI (t + 2)) (lw_ad (by decide +kernel)) dL_law_975 ?_
  refine r_sldN (t := t + 2) (by omega) hN dL_law_976 ?_
  refine r_aload_n (n := 0) (i := 0) 4 rfl rfl dL_law_977 ?_
  refine r_iload (i := 4) 0 rfl dL_law_978 ?_
  refine r_iconst (v := 3) (by decide) dL_law_980 ?_
  refine r_iaddE (v := nI (t + 3)) (lw_ad (by decide +kernel)) dL_law_981 ?_
  refine r_sldN (t := t + 3) (by omega) hN dL_law_982 ?_
  refine r_aload_n (n := 0) (i := 0) 4 rfl rfl dL_law_983 ?_
  refine r_iload (i := 4) 0 rfl dL_law_984 ?_
  refine r_iconst (v := 4) (by decide) dL_law_986 ?_
  refine r_iaddE (v := nI (t + 4)) (lw_ad (by decide +kernel)) dL_law_987 ?_
  refine r_sldN (t := t + 4) (by omega) hN dL_law_988 ?_
  refine p_callV (As := [.int (oX O (t + 1)), .int (oX O (t + 2)), .int (oX O (t + 3)), .int (oX O (t + 4))]) (rest := []) hx rfl lkL_122 imX7_expect seX7_expect rfl hX.1 rfl rfl (by decide) (Nat.le_of_ble_eq_true rfl) dL_law_989 (fun v9 G9 h9 => ?_) (fun q9 G9 h9 => absurd h9 pX_nx)
  obtain ⟨f9, n9, s9⟩ := G9
  obtain ⟨e0, hX9, e9, hn9, hs9⟩ := h9
  cases e0
  have hn9 : n9 ≤ n + 0 := hn9
  have hs9 : s9 ≤ s + 0 := hs9
  have hM9 : MP f9 σ := MP_fr hM hJ.1 (fun q hq => e9 q (by omega))
  obtain ⟨fs50, h50⟩ := MP_50 hM9
  show bV O mL_law 160 992 [(4, .int (nI t)), (3, .ref 46), (2, .ref 50), (1, .ref 32), (0, .ref 0)] [.int R.1] (f9, n9, s9) Q
  refine r_aload_n (n := 2) (i := 2) 2 rfl rfl dL_law_992 ?_
  refine r_aload_n (n := 0) (i := 0) 4 rfl rfl dL_law_993 ?_
  refine r_iload (i := 4) 0 rfl dL_law_994 ?_
  refine r_iconst (v := 1) (by decide) dL_law_996 ?_
  refine r_iaddE (v := nI (t + 1)) (lw_ad (by decide +kernel)) dL_law_997 ?_
  refine r_sldN (t := t + 1) (by omega) hN dL_law_998 ?_
  refine r_aload_n (n := 0) (i := 0) 4 rfl rfl dL_law_999 ?_
  refine r_iload (i := 4) 0 rfl dL_law_1000 ?_
  refine r_iconst (v := 2) (by decide) dL_law_1002 ?_
  refine r_iaddE (v := nI (t + 2)) (lw_ad (by decide +kernel)) dL_law_1003 ?_
  refine r_sldN (t := t + 2) (by omega) hN dL_law_1004 ?_
  refine r_aload_n (n := 0) (i := 0) 4 rfl rfl dL_law_1005 ?_
  refine r_iload (i := 4) 0 rfl dL_law_1006 ?_
  refine r_iconst (v := 3) (by decide) dL_law_1008 ?_
  refine r_iaddE (v := nI (t + 3)) (lw_ad (by decide +kernel)) dL_law_1009 ?_
  refine r_sldN (t := t + 3) (by omega) hN dL_law_1010 ?_
  refine r_aload_n (n := 0) (i := 0) 4 rfl rfl dL_law_1011 ?_
  refine r_iload (i := 4) 0 rfl dL_law_1012 ?_
  refine r_iconst (v := 4) (by decide) dL_law_1014 ?_
  refine r_iaddE (v := nI (t + 4)) (lw_ad (by decide +kernel)) dL_law_1015 ?_
  refine r_sldN (t := t + 4) (by omega) hN dL_law_1016 ?_
  refine p_callV (As := [.int (oX O (t + 1)), .int (oX O (t + 2)), .int (oX O (t + 3)), .int (oX O (t + 4))]) (rest := [.int R.1]) (hm f9 n9 s9 hM9) rfl lkL_125 imX11_expect seX11_expect rfl h50 rfl rfl (by decide) (Nat.le_of_ble_eq_true rfl) dL_law_1017 (fun v8 G8 h8 => ?_) (fun q8 G8 h8 => absurd h8 pM_nx)
  obtain ⟨f8, n8, s8⟩ := G8
  obtain ⟨e0, hM8, e8, hn8, hs8⟩ := h8
  cases e0
  have hn8 : n8 ≤ n9 + 0 := hn8
  have hs8 : s8 ≤ s9 + 0 := hs8
  show bV O mL_law 160 1020 [(4, .int (nI t)), (3, .ref 46), (2, .ref 50), (1, .ref 32), (0, .ref 0)] [.int R.1, .int R.1] (f8, n8, s8) Q
  refine r_icmp_eq (tgt := 1291) (by decide) dL_law_1020 (fun _ => ?_) (fun h => absurd rfl h)
  obtain ⟨g, h46⟩ := h46
  exact kk f8 n8 s8 R.2 (XR_fr hX9 hj.1 (fun q hq => e8 q (by omega))) hM8 hj ⟨g, (e8 46 (by omega)).trans ((e9 46 (by omega)).trans h46)⟩ (by omega) (by omega)
set_option maxHeartbeats 1000000 in
theorem lw_c25 {O : bO} {Q : bR → bG → Prop} {f : bF} {n s t : Nat} {σ : SS} (hX : XR f σ) (hM : MP f σ) (hJ : JK σ) (h46 : ∃ g : Nat → Int64, f 46 = some (.inl (2, 1, .inr (.inl g)))) (hN : oN O ≤ 3072) (ht : t + 6 ≤ oN O) (kk : lw_go O Q n s t) : bV O mL_law 160 1025 [(4, .int (nI t)), (3, .ref 46), (2, .ref 50), (1, .ref 32), (0, .ref 0)] [] (f, n, s) Q := by
  obtain ⟨bs, tl, mc, md, ip, dc, dr, ac, an, hs, sd, df, dfn, td, tr, ft, pl⟩ := σ
  have hx := x_drift (O := O) (d := 159) (n := n) (s := s) (x := oX O (t + 1)) (k := oX O (t + 2)) hX (JJ_JX hJ.1) (by decide)
  have hm := fun (f9 : bF) (n9 s9 : Nat) (h9 : MP f9 (bs, tl, mc, md, ip, dc, dr, ac, an, hs, sd, df, dfn, td, tr, ft, pl)) => m_drift (O := O) (d := 159) (n := n9) (s := s9) (x := oX O (t + 1)) (k := oX O (t + 2)) h9 hJ.1 (by decide)
  have hj := j_drift (x := oX O (t + 1)) (k := oX O (t + 2)) hJ
  generalize s_drift (bs, tl, mc, md, ip, dc, dr, ac, an, hs, sd, df, dfn, td, tr, ft, pl) (oX O (t + 1)) (oX O (t + 2)) = R at hx hm hj
  generalize (bs, tl, mc, md, ip, dc, dr, ac, an, hs, sd, df, dfn, td, tr, ft, pl) = σ at hX hM hJ hm
  refine r_aload_n (n := 1) (i := 1) 3 rfl rfl dL_law_1025 ?_
  refine r_aload_n (n := 0) (i := 0) 4 rfl rfl dL_law_1026 ?_
  refine r_iload (i := 4) 0 rfl dL_law_1027 ?_
  refine r_iconst (v := 1) (by decide) dL_law_1029 ?_
  refine r_iaddE (v := nI (t + 1)) (lw_ad (by decide +kernel)) dL_law_1030 ?_
  refine r_sldN (t := t + 1) (by omega) hN dL_law_1031 ?_
  refine r_aload_n (n := 0) (i := 0) 4 rfl rfl dL_law_1032 ?_
  refine r_iload (i := 4) 0 rfl dL_law_1033 ?_
  refine r_iconst (v := 2) (by decide) dL_law_1035 ?_
  refine r_iaddE (v := nI (t + 2)) (lw_ad (by decide +kernel)) dL_law_1036 ?_
  refine r_sldN (t := t + 2) (by omega) hN dL_law_1037 ?_
  refine p_callV (As := [.int (oX O (t + 1)), .int (oX O (t + 2))]) (rest := []) hx rfl lkL_126 imX7_drift seX7_drift rfl hX.1 rfl rfl (by decide) (Nat.le_of_ble_eq_true rfl) dL_law_1038 (fun v9 G9 h9 => ?_) (fun q9 G9 h9 => absurd h9 pX_nx)
  obtain ⟨f9, n9, s9⟩ := G9
  obtain ⟨e0, hX9, e9, hn9, hs9⟩ := h9
  cases e0
  have hn9 : n9 ≤ n + 0 := hn9
  have hs9 : s9 ≤ s + 0 := hs9
  have hM9 : MP f9 σ := MP_fr hM hJ.1 (fun q hq => e9 q (by omega))
  obtain ⟨fs50, h50⟩ := MP_50 hM9
  show bV O mL_law 160 1041 [(4, .int (nI t)), (3, .ref 46), (2, .ref 50), (1, .ref 32), (0, .ref 0)] [.int R.1] (f9, n9, s9) Q
  refine r_aload_n (n := 2) (i := 2) 2 rfl rfl dL_law_1041 ?_
  refine r_aload_n (n := 0) (i := 0) 4 rfl rfl dL_law_1042 ?_
  refine r_iload (i := 4) 0 rfl dL_law_1043 ?_
  refine r_iconst (v := 1) (by decide) dL_law_1045 ?_
  refine r_iaddE (v := nI (t + 1)) (lw_ad (by decide +kernel)) dL_law_1046 ?_
  refine r_sldN (t := t + 1) (by omega) hN dL_law_1047 ?_
  refine r_aload_n (n := 0) (i := 0) 4 rfl rfl dL_law_1048 ?_
  refine r_iload (i := 4) 0 rfl dL_law_1049 ?_
  refine r_iconst (v := 2) (by decide) dL_law_1051 ?_
  refine r_iaddE (v := nI (t + 2)) (lw_ad (by decide +kernel)) dL_law_1052 ?_
  refine r_sldN (t := t + 2) (by omega) hN dL_law_1053 ?_
  refine p_callV (As := [.int (oX O (t + 1)), .int (oX O (t + 2))]) (rest := [.int R.1]) (hm f9 n9 s9 hM9) rfl lkL_129 imX11_drift seX11_drift rfl h50 rfl rfl (by decide) (Nat.le_of_ble_eq_true rfl) dL_law_1054 (fun v8 G8 h8 => ?_) (fun q8 G8 h8 => absurd h8 pM_nx)
  obtain ⟨f8, n8, s8⟩ := G8
  obtain ⟨e0, hM8, e8, hn8, hs8⟩ := h8
  cases e0
  have hn8 : n8 ≤ n9 + 0 := hn8
  have hs8 : s8 ≤ s9 + 0 := hs8
  show bV O mL_law 160 1057 [(4, .int (nI t)), (3, .ref 46), (2, .ref 50), (1, .ref 32), (0, .ref 0)] [.int R.1, .int R.1] (f8, n8, s8) Q
  refine r_icmp_eq (tgt := 1291) (by decide) dL_law_1057 (fun _ => ?_) (fun h => absurd rfl h)
  obtain ⟨g, h46⟩ := h46
  exact kk f8 n8 s8 R.2 (XR_fr hX9 hj.1 (fun q hq => e8 q (by omega))) hM8 hj ⟨g, (e8 46 (by omega)).trans ((e9 46 (by omega)).trans h46)⟩ (by omega) (by omega)
set_option maxHeartbeats 1000000 in
theorem lw_c26 {O : bO} {Q : bR → bG → Prop} {f : bF} {n s t : Nat} {σ : SS} (hX : XR f σ) (hM : MP f σ) (hJ : JK σ) (h46 : ∃ g : Nat → Int64, f 46 = some (.inl (2, 1, .inr (.inl g)))) (hN : oN O ≤ 3072) (ht : t + 6 ≤ oN O) (kk : lw_go O Q n s t) : bV O mL_law 160 1062 [(4, .int (nI t)), (3, .ref 46), (2, .ref 50), (1, .ref 32), (0, .ref 0)] [] (f, n, s) Q := by
  obtain ⟨bs, tl, mc, md, ip, dc, dr, ac, an, hs, sd, df, dfn, td, tr, ft, pl⟩ := σ
  have hx := x_seen (O := O) (d := 159) (n := n) (s := s) (x := oX O (t + 1)) (k := oX O (t + 2)) (b := oX O (t + 3)) hX (JJ_JX hJ.1) (by decide)
  have hm := fun (f9 : bF) (n9 s9 : Nat) (h9 : MP f9 (bs, tl, mc, md, ip, dc, dr, ac, an, hs, sd, df, dfn, td, tr, ft, pl)) => m_seen (O := O) (d := 159) (n := n9) (s := s9) (x := oX O (t + 1)) (k := oX O (t + 2)) (b := oX O (t + 3)) h9 hJ.1 (by decide)
  have hj := j_seen (x := oX O (t + 1)) (k := oX O (t + 2)) (b := oX O (t + 3)) hJ
  generalize s_seen (bs, tl, mc, md, ip, dc, dr, ac, an, hs, sd, df, dfn, td, tr, ft, pl) (oX O (t + 1)) (oX O (t + 2)) (oX O (t + 3)) = R at hx hm hj
  generalize (bs, tl, mc, md, ip, dc, dr, ac, an, hs, sd, df, dfn, td, tr, ft, pl) = σ at hX hM hJ hm
  refine r_aload_n (n := 1) (i := 1) 3 rfl rfl dL_law_1062 ?_
  refine r_aload_n (n := 0) (i := 0) 4 rfl rfl dL_law_1063 ?_
  refine r_iload (i := 4) 0 rfl dL_law_1064 ?_
  refine r_iconst (v := 1) (by decide) dL_law_1066 ?_
  refine r_iaddE (v := nI (t + 1)) (lw_ad (by decide +kernel)) dL_law_1067 ?_
  refine r_sldN (t := t + 1) (by omega) hN dL_law_1068 ?_
  refine r_aload_n (n := 0) (i := 0) 4 rfl rfl dL_law_1069 ?_
  refine r_iload (i := 4) 0 rfl dL_law_1070 ?_
  refine r_iconst (v := 2) (by decide) dL_law_1072 ?_
  refine r_iaddE (v := nI (t + 2)) (lw_ad (by decide +kernel)) dL_law_1073 ?_
  refine r_sldN (t := t + 2) (by omega) hN dL_law_1074 ?_
  refine r_aload_n (n := 0) (i := 0) 4 rfl rfl dL_law_1075 ?_
  refine r_iload (i := 4) 0 rfl dL_law_1076 ?_
  refine r_iconst (v := 3) (by decide) dL_law_1078 ?_
  refine r_iaddE (v := nI (t + 3)) (lw_ad (by decide +kernel)) dL_law_1079 ?_
  refine r_sldN (t := t + 3) (by omega) hN dL_law_1080 ?_
  refine p_callV (As := [.int (oX O (t + 1)), .int (oX O (t + 2)), .int (oX O (t + 3))]) (rest := []) hx rfl lkL_130 imX7_seen seX7_seen rfl hX.1 rfl rfl (by decide) (Nat.le_of_ble_eq_true rfl) dL_law_1081 (fun v9 G9 h9 => ?_) (fun q9 G9 h9 => absurd h9 pX_nx)
  obtain ⟨f9, n9, s9⟩ := G9
  obtain ⟨e0, hX9, e9, hn9, hs9⟩ := h9
  cases e0
  have hn9 : n9 ≤ n + 0 := hn9
  have hs9 : s9 ≤ s + 0 := hs9
  have hM9 : MP f9 σ := MP_fr hM hJ.1 (fun q hq => e9 q (by omega))
  obtain ⟨fs50, h50⟩ := MP_50 hM9
  show bV O mL_law 160 1084 [(4, .int (nI t)), (3, .ref 46), (2, .ref 50), (1, .ref 32), (0, .ref 0)] [.int R.1] (f9, n9, s9) Q
  refine r_aload_n (n := 2) (i := 2) 2 rfl rfl dL_law_1084 ?_
  refine r_aload_n (n := 0) (i := 0) 4 rfl rfl dL_law_1085 ?_
  refine r_iload (i := 4) 0 rfl dL_law_1086 ?_
  refine r_iconst (v := 1) (by decide) dL_law_1088 ?_
  refine r_iaddE (v := nI (t + 1)) (lw_ad (by decide +kernel)) dL_law_1089 ?_
  refine r_sldN (t := t + 1) (by omega) hN dL_law_1090 ?_
  refine r_aload_n (n := 0) (i := 0) 4 rfl rfl dL_law_1091 ?_
  refine r_iload (i := 4) 0 rfl dL_law_1092 ?_
  refine r_iconst (v := 2) (by decide) dL_law_1094 ?_
  refine r_iaddE (v := nI (t + 2)) (lw_ad (by decide +kernel)) dL_law_1095 ?_
  refine r_sldN (t := t + 2) (by omega) hN dL_law_1096 ?_
  refine r_aload_n (n := 0) (i := 0) 4 rfl rfl dL_law_1097 ?_
  refine r_iload (i := 4) 0 rfl dL_law_1098 ?_
  refine r_iconst (v := 3) (by decide) dL_law_1100 ?_
  refine r_iaddE (v := nI (t + 3)) (lw_ad (by decide +kernel)) dL_law_1101 ?_
  refine r_sldN (t := t + 3) (by omega) hN dL_law_1102 ?_
  refine p_callV (As := [.int (oX O (t + 1)), .int (oX O (t + 2)), .int (oX O (t + 3))]) (rest := [.int R.1]) (hm f9 n9 s9 hM9) rfl lkL_134 imX11_seen seX11_seen rfl h50 rfl rfl (by decide) (Nat.le_of_ble_eq_true rfl) dL_law_1103 (fun v8 G8 h8 => ?_) (fun q8 G8 h8 => absurd h8 pM_nx)
  obtain ⟨f8, n8, s8⟩ := G8
  obtain ⟨e0, hM8, e8, hn8, hs8⟩ := h8
  cases e0
  have hn8 : n8 ≤ n9 + 0 := hn8
  have hs8 : s8 ≤ s9 + 0 := hs8
  show bV O mL_law 160 1106 [(4, .int (nI t)), (3, .ref 46), (2, .ref 50), (1, .ref 32), (0, .ref 0)] [.int R.1, .int R.1] (f8, n8, s8) Q
  refine r_icmp_eq (tgt := 1291) (by decide) dL_law_1106 (fun _ => ?_) (fun h => absurd rfl h)
  obtain ⟨g, h46⟩ := h46
  exact kk f8 n8 s8 R.2 (XR_fr hX9 hj.1 (fun q hq => e8 q (by omega))) hM8 hj ⟨g, (e8 46 (by omega)).trans ((e9 46 (by omega)).trans h46)⟩ (by omega) (by omega)
set_option maxHeartbeats 1000000 in
theorem lw_c27 {O : bO} {Q : bR → bG → Prop} {f : bF} {n s t : Nat} {σ : SS} (hX : XR f σ) (hM : MP f σ) (hJ : JK σ) (h46 : ∃ g : Nat → Int64, f 46 = some (.inl (2, 1, .inr (.inl g)))) (hN : oN O ≤ 3072) (ht : t + 6 ≤ oN O) (kk : lw_go O Q n s t) : bV O mL_law 160 1111 [(4, .int (nI t)), (3, .ref 46), (2, .ref 50), (1, .ref 32), (0, .ref 0)] [] (f, n, s) Q := by
  obtain ⟨bs, tl, mc, md, ip, dc, dr, ac, an, hs, sd, df, dfn, td, tr, ft, pl⟩ := σ
  have hx := x_gave (O := O) (d := 159) (n := n) (s := s) (m := oX O (t + 1)) (lo := oX O (t + 2)) (hi := oX O (t + 3)) hX (JJ_JX hJ.1) (by decide)
  have hm := fun (f9 : bF) (n9 s9 : Nat) (h9 : MP f9 (bs, tl, mc, md, ip, dc, dr, ac, an, hs, sd, df, dfn, td, tr, ft, pl)) => m_gave (O := O) (d := 159) (n := n9) (s := s9) (m := oX O (t + 1)) (lo := oX O (t + 2)) (hi := oX O (t + 3)) h9 hJ.1 (by decide)
  have hj := j_gave (m := oX O (t + 1)) (lo := oX O (t + 2)) (hi := oX O (t + 3)) hJ
  generalize s_gave (bs, tl, mc, md, ip, dc, dr, ac, an, hs, sd, df, dfn, td, tr, ft, pl) (oX O (t + 1)) (oX O (t + 2)) (oX O (t + 3)) = R at hx hm hj
  generalize (bs, tl, mc, md, ip, dc, dr, ac, an, hs, sd, df, dfn, td, tr, ft, pl) = σ at hX hM hJ hm
  refine r_aload_n (n := 1) (i := 1) 3 rfl rfl dL_law_1111 ?_
  refine r_aload_n (n := 0) (i := 0) 4 rfl rfl dL_law_1112 ?_
  refine r_iload (i := 4) 0 rfl dL_law_1113 ?_
  refine r_iconst (v := 1) (by decide) dL_law_1115 ?_
  refine r_iaddE (v := nI (t + 1)) (lw_ad (by decide +kernel)) dL_law_1116 ?_
  refine r_sldN (t := t + 1) (by omega) hN dL_law_1117 ?_
  refine r_aload_n (n := 0) (i := 0) 4 rfl rfl dL_law_1118 ?_
  refine r_iload (i := 4) 0 rfl dL_law_1119 ?_
  refine r_iconst (v := 2) (by decide) dL_law_1121 ?_
  refine r_iaddE (v := nI (t + 2)) (lw_ad (by decide +kernel)) dL_law_1122 ?_
  refine r_sldN (t := t + 2) (by omega) hN dL_law_1123 ?_
  refine r_aload_n (n := 0) (i := 0) 4 rfl rfl dL_law_1124 ?_
  refine r_iload (i := 4) 0 rfl dL_law_1125 ?_
  refine r_iconst (v := 3) (by decide) dL_law_1127 ?_
  refine r_iaddE (v := nI (t + 3)) (lw_ad (by decide +kernel)) dL_law_1128 ?_
  refine r_sldN (t := t + 3) (by omega) hN dL_law_1129 ?_
  refine p_callV (As := [.int (oX O (t + 1)), .int (oX O (t + 2)), .int (oX O (t + 3))]) (rest := []) hx rfl lkL_135 imX7_gave seX7_gave rfl hX.1 rfl rfl (by decide) (Nat.le_of_ble_eq_true rfl) dL_law_1130 (fun v9 G9 h9 => ?_) (fun q9 G9 h9 => absurd h9 pX_nx)
  obtain ⟨f9, n9, s9⟩ := G9
  obtain ⟨e0, hX9, e9, hn9, hs9⟩ := h9
  cases e0
  have hn9 : n9 ≤ n + 0 := hn9
  have hs9 : s9 ≤ s + 0 := hs9
  have hM9 : MP f9 σ := MP_fr hM hJ.1 (fun q hq => e9 q (by omega))
  obtain ⟨fs50, h50⟩ := MP_50 hM9
  show bV O mL_law 160 1133 [(4, .int (nI t)), (3, .ref 46), (2, .ref 50), (1, .ref 32), (0, .ref 0)] [.int R.1] (f9, n9, s9) Q
  refine r_aload_n (n := 2) (i := 2) 2 rfl rfl dL_law_1133 ?_
  refine r_aload_n (n := 0) (i := 0) 4 rfl rfl dL_law_1134 ?_
  refine r_iload (i := 4) 0 rfl dL_law_1135 ?_
  refine r_iconst (v := 1) (by decide) dL_law_1137 ?_
  refine r_iaddE (v := nI (t + 1)) (lw_ad (by decide +kernel)) dL_law_1138 ?_
  refine r_sldN (t := t + 1) (by omega) hN dL_law_1139 ?_
  refine r_aload_n (n := 0) (i := 0) 4 rfl rfl dL_law_1140 ?_
  refine r_iload (i := 4) 0 rfl dL_law_1141 ?_
  refine r_iconst (v := 2) (by decide) dL_law_1143 ?_
  refine r_iaddE (v := nI (t + 2)) (lw_ad (by decide +kernel)) dL_law_1144 ?_
  refine r_sldN (t := t + 2) (by omega) hN dL_law_1145 ?_
  refine r_aload_n (n := 0) (i := 0) 4 rfl rfl dL_law_1146 ?_
  refine r_iload (i := 4) 0 rfl dL_law_1147 ?_
  refine r_iconst (v := 3) (by decide) dL_law_1149 ?_
  refine r_iaddE (v := nI (t + 3)) (lw_ad (by decide +kernel)) dL_law_1150 ?_
  refine r_sldN (t := t + 3) (by omega) hN dL_law_1151 ?_
  refine p_callV (As := [.int (oX O (t + 1)), .int (oX O (t + 2)), .int (oX O (t + 3))]) (rest := [.int R.1]) (hm f9 n9 s9 hM9) rfl lkL_138 imX11_gave seX11_gave rfl h50 rfl rfl (by decide) (Nat.le_of_ble_eq_true rfl) dL_law_1152 (fun v8 G8 h8 => ?_) (fun q8 G8 h8 => absurd h8 pM_nx)
  obtain ⟨f8, n8, s8⟩ := G8
  obtain ⟨e0, hM8, e8, hn8, hs8⟩ := h8
  cases e0
  have hn8 : n8 ≤ n9 + 0 := hn8
  have hs8 : s8 ≤ s9 + 0 := hs8
  show bV O mL_law 160 1155 [(4, .int (nI t)), (3, .ref 46), (2, .ref 50), (1, .ref 32), (0, .ref 0)] [.int R.1, .int R.1] (f8, n8, s8) Q
  refine r_icmp_eq (tgt := 1291) (by decide) dL_law_1155 (fun _ => ?_) (fun h => absurd rfl h)
  obtain ⟨g, h46⟩ := h46
  exact kk f8 n8 s8 R.2 (XR_fr hX9 hj.1 (fun q hq => e8 q (by omega))) hM8 hj ⟨g, (e8 46 (by omega)).trans ((e9 46 (by omega)).trans h46)⟩ (by omega) (by omega)
set_option maxHeartbeats 1000000 in
theorem lw_c28 {O : bO} {Q : bR → bG → Prop} {f : bF} {n s t : Nat} {σ : SS} (hX : XR f σ) (hM : MP f σ) (hJ : JK σ) (h46 : ∃ g : Nat → Int64, f 46 = some (.inl (2, 1, .inr (.inl g)))) (hN : oN O ≤ 3072) (ht : t + 6 ≤ oN O) (kk : lw_go O Q n s t) : bV O mL_law 160 1160 [(4, .int (nI t)), (3, .ref 46), (2, .ref 50), (1, .ref 32), (0, .ref 0)] [] (f, n, s) Q := by
  obtain ⟨bs, tl, mc, md, ip, dc, dr, ac, an, hs, sd, df, dfn, td, tr, ft, pl⟩ := σ
  have hx := x_differs (O := O) (d := 159) (n := n) (s := s) (x := oX O (t + 1)) (m := oX O (t + 2)) hX (JJ_JX hJ.1) (by decide)
  have hm := fun (f9 : bF) (n9 s9 : Nat) (h9 : MP f9 (bs, tl, mc, md, ip, dc, dr, ac, an, hs, sd, df, dfn, td, tr, ft, pl)) => m_differs (O := O) (d := 159) (n := n9) (s := s9) (x := oX O (t + 1)) (m := oX O (t + 2)) h9 hJ.1 (by decide)
  have hj := j_differs (x := oX O (t + 1)) (m := oX O (t + 2)) hJ
  generalize s_differs (bs, tl, mc, md, ip, dc, dr, ac, an, hs, sd, df, dfn, td, tr, ft, pl) (oX O (t + 1)) (oX O (t + 2)) = R at hx hm hj
  generalize (bs, tl, mc, md, ip, dc, dr, ac, an, hs, sd, df, dfn, td, tr, ft, pl) = σ at hX hM hJ hm
  refine r_aload_n (n := 1) (i := 1) 3 rfl rfl dL_law_1160 ?_
  refine r_aload_n (n := 0) (i := 0) 4 rfl rfl dL_law_1161 ?_
  refine r_iload (i := 4) 0 rfl dL_law_1162 ?_
  refine r_iconst (v := 1) (by decide) dL_law_1164 ?_
  refine r_iaddE (v := nI (t + 1)) (lw_ad (by decide +kernel)) dL_law_1165 ?_
  refine r_sldN (t := t + 1) (by omega) hN dL_law_1166 ?_
  refine r_aload_n (n := 0) (i := 0) 4 rfl rfl dL_law_1167 ?_
  refine r_iload (i := 4) 0 rfl dL_law_1168 ?_
  refine r_iconst (v := 2) (by decide) dL_law_1170 ?_
  refine r_iaddE (v := nI (t + 2)) (lw_ad (by decide +kernel)) dL_law_1171 ?_
  refine r_sldN (t := t + 2) (by omega) hN dL_law_1172 ?_
  refine p_callV (As := [.int (oX O (t + 1)), .int (oX O (t + 2))]) (rest := []) hx rfl lkL_139 imX7_differs seX7_differs rfl hX.1 rfl rfl (by decide) (Nat.le_of_ble_eq_true rfl) dL_law_1173 (fun v9 G9 h9 => ?_) (fun q9 G9 h9 => absurd h9 pX_nx)
  obtain ⟨f9, n9, s9⟩ := G9
  obtain ⟨e0, hX9, e9, hn9, hs9⟩ := h9
  cases e0
  have hn9 : n9 ≤ n + 0 := hn9
  have hs9 : s9 ≤ s + 0 := hs9
  have hM9 : MP f9 σ := MP_fr hM hJ.1 (fun q hq => e9 q (by omega))
  obtain ⟨fs50, h50⟩ := MP_50 hM9
  show bV O mL_law 160 1176 [(4, .int (nI t)), (3, .ref 46), (2, .ref 50), (1, .ref 32), (0, .ref 0)] [.int R.1] (f9, n9, s9) Q
  refine r_aload_n (n := 2) (i := 2) 2 rfl rfl dL_law_1176 ?_
  refine r_aload_n (n := 0) (i := 0) 4 rfl rfl dL_law_1177 ?_
  refine r_iload (i := 4) 0 rfl dL_law_1178 ?_
  refine r_iconst (v := 1) (by decide) dL_law_1180 ?_
  refine r_iaddE (v := nI (t + 1)) (lw_ad (by decide +kernel)) dL_law_1181 ?_
  refine r_sldN (t := t + 1) (by omega) hN dL_law_1182 ?_
  refine r_aload_n (n := 0) (i := 0) 4 rfl rfl dL_law_1183 ?_
  refine r_iload (i := 4) 0 rfl dL_law_1184 ?_
  refine r_iconst (v := 2) (by decide) dL_law_1186 ?_
  refine r_iaddE (v := nI (t + 2)) (lw_ad (by decide +kernel)) dL_law_1187 ?_
  refine r_sldN (t := t + 2) (by omega) hN dL_law_1188 ?_
  refine p_callV (As := [.int (oX O (t + 1)), .int (oX O (t + 2))]) (rest := [.int R.1]) (hm f9 n9 s9 hM9) rfl lkL_142 imX11_differs seX11_differs rfl h50 rfl rfl (by decide) (Nat.le_of_ble_eq_true rfl) dL_law_1189 (fun v8 G8 h8 => ?_) (fun q8 G8 h8 => absurd h8 pM_nx)
  obtain ⟨f8, n8, s8⟩ := G8
  obtain ⟨e0, hM8, e8, hn8, hs8⟩ := h8
  cases e0
  have hn8 : n8 ≤ n9 + 0 := hn8
  have hs8 : s8 ≤ s9 + 0 := hs8
  show bV O mL_law 160 1192 [(4, .int (nI t)), (3, .ref 46), (2, .ref 50), (1, .ref 32), (0, .ref 0)] [.int R.1, .int R.1] (f8, n8, s8) Q
  refine r_icmp_eq (tgt := 1291) (by decide) dL_law_1192 (fun _ => ?_) (fun h => absurd rfl h)
  obtain ⟨g, h46⟩ := h46
  exact kk f8 n8 s8 R.2 (XR_fr hX9 hj.1 (fun q hq => e8 q (by omega))) hM8 hj ⟨g, (e8 46 (by omega)).trans ((e9 46 (by omega)).trans h46)⟩ (by omega) (by omega)
set_option maxHeartbeats 1000000 in
theorem lw_c29 {O : bO} {Q : bR → bG → Prop} {f : bF} {n s t : Nat} {σ : SS} (hX : XR f σ) (hM : MP f σ) (hJ : JK σ) (h46 : ∃ g : Nat → Int64, f 46 = some (.inl (2, 1, .inr (.inl g)))) (hN : oN O ≤ 3072) (ht : t + 6 ≤ oN O) (kk : lw_go O Q n s t) : bV O mL_law 160 1197 [(4, .int (nI t)), (3, .ref 46), (2, .ref 50), (1, .ref 32), (0, .ref 0)] [] (f, n, s) Q := by
  obtain ⟨bs, tl, mc, md, ip, dc, dr, ac, an, hs, sd, df, dfn, td, tr, ft, pl⟩ := σ
  obtain ⟨g, h46⟩ := h46
  have hx := k_LdiffG (O := O) (d := 159) (n := n) (s := s) (x := oX O (t + 1)) hX (JJ_JX hJ.1) h46 (by decide)
  have hm := fun (f9 : bF) (n9 s9 : Nat) (h9 : MP f9 (bs, tl, mc, md, ip, dc, dr, ac, an, hs, sd, df, dfn, td, tr, ft, pl)) => m_differing (O := O) (d := 159) (n := n9) (s := s9) (x := oX O (t + 1)) h9 hJ.1 (by decide)
  refine r_aload_n (n := 1) (i := 1) 3 rfl rfl dL_law_1197 ?_
  refine r_aload_n (n := 0) (i := 0) 4 rfl rfl dL_law_1198 ?_
  refine r_iload (i := 4) 0 rfl dL_law_1199 ?_
  refine r_iconst (v := 1) (by decide) dL_law_1201 ?_
  refine r_iaddE (v := nI (t + 1)) (lw_ad (by decide +kernel)) dL_law_1202 ?_
  refine r_sldN (t := t + 1) (by omega) hN dL_law_1203 ?_
  refine r_aload_n (n := 3) (i := 3) 1 rfl rfl dL_law_1204 ?_
  refine r_callSH (x := ⟨0, 9, 12, 13⟩) (G := (f, n, s)) (As := [.ref 32, .int (oX O (t + 1)), .ref 46]) (rest := []) hx rfl lkL_143 smL_differing rfl rfl (by decide) (Nat.le_of_ble_eq_true rfl) dL_law_1205 (fun v9 G9 h9 => ?_) (fun q9 G9 h9 => absurd h9 qG_nx)
  rcases h9 with ⟨h7, h8, rfl⟩ | ⟨h7, h8, rfl⟩
  · cases h8
    show bV O mL_law 160 1208 [(4, .int (nI t)), (3, .ref 46), (2, .ref 50), (1, .ref 32), (0, .ref 0)] [.int 0] ((bU f 46 (.inl (2, 1, .inr (.inl (vp_updL g 0 (df (cl (oX O (t + 1)))).toInt64))))), n, s) Q
    refine r_istore (i := 5) (L' := [(5, .int 0), (4, .int (nI t)), (3, .ref 46), (2, .ref 50), (1, .ref 32), (0, .ref 0)]) dL_law_1208 (by decide) rfl ?_
    have hM9 : MP (bU f 46 (.inl (2, 1, .inr (.inl (vp_updL g 0 (df (cl (oX O (t + 1)))).toInt64))))) (bs, tl, mc, md, ip, dc, dr, ac, an, hs, sd, df, dfn, td, tr, ft, pl) := MP_fr hM hJ.1 (fun q hq => bU_n (by omega))
    have hX9 : XR (bU f 46 (.inl (2, 1, .inr (.inl (vp_updL g 0 (df (cl (oX O (t + 1)))).toInt64))))) (bs, tl, mc, md, ip, dc, dr, ac, an, hs, sd, df, dfn, td, tr, ft, pl) := XR_fr hX hJ.1 (fun q hq => bU_n (by omega))
    obtain ⟨fs50, h50⟩ := MP_50 hM9
    refine r_aload_n (n := 2) (i := 2) 3 rfl rfl dL_law_1210 ?_
    refine r_aload_n (n := 0) (i := 0) 5 rfl rfl dL_law_1211 ?_
    refine r_iload (i := 4) 1 rfl dL_law_1212 ?_
    refine r_iconst (v := 1) (by decide) dL_law_1214 ?_
    refine r_iaddE (v := nI (t + 1)) (lw_ad (by decide +kernel)) dL_law_1215 ?_
    refine r_sldN (t := t + 1) (by omega) hN dL_law_1216 ?_
    refine p_callV (As := [.int (oX O (t + 1))]) (rest := []) (hm _ (n) (s) hM9) rfl lkL_148 imX11_differing seX11_differing rfl h50 rfl rfl (by decide) (Nat.le_of_ble_eq_true rfl) dL_law_1217 (fun v8 G8 h8 => ?_) (fun q8 G8 h8 => (by obtain ⟨v, h8, -⟩ := h8; cases h8))
    obtain ⟨f8, n8, s8⟩ := G8
    obtain ⟨w, e0, hM8, e8, eG, fs, h58, hw⟩ := h8
    cases e0
    have en : n8 = n := congrArg Prod.fst eG
    have es : s8 = s := congrArg Prod.snd eG
    rw [en, es]
    have hM8 : MP f8 (bs, tl, mc, md, ip, dc, dr, ac, an, hs, sd, df, dfn, td, tr, ft, pl) := hM8
    have e8 : ∀ q, (q < 50 ∨ (1000 ≤ q ∧ q < 5000)) → f8 q = (bU f 46 (.inl (2, 1, .inr (.inl (vp_updL g 0 (df (cl (oX O (t + 1)))).toInt64))))) q := e8
    have h58 : f8 50 = some (.inr (11, .int (if inB (oX O (t + 1)) dfn = true then 0 else 1) :: fs)) := h58
    have hw : inB (oX O (t + 1)) dfn = true → w = df (cl (oX O (t + 1))) := hw
    show bV O mL_law 160 1220 [(5, .int 0), (4, .int (nI t)), (3, .ref 46), (2, .ref 50), (1, .ref 32), (0, .ref 0)] [.int w] (f8, n, s) Q
    refine r_istore (i := 6) (L' := [(6, .int w), (5, .int 0), (4, .int (nI t)), (3, .ref 46), (2, .ref 50), (1, .ref 32), (0, .ref 0)]) dL_law_1220 (by decide) rfl ?_
    refine r_aload_n (n := 2) (i := 2) 4 rfl rfl dL_law_1222 ?_
    refine p_callV (As := []) (rest := []) (m_thrown (O := O) (d := 159) (n := n) (s := s) h58 (by decide)).call rfl lkL_149 imX11_thrown seX11_thrown rfl h58 rfl rfl (by decide) (Nat.le_of_ble_eq_true rfl) dL_law_1223 (fun v7 G7 h9 => ?_) (fun q7 G7 h9 => (by cases h9.1))
    obtain ⟨e0, rfl⟩ := h9
    cases e0
    rw [h7] at h58 hw ⊢
    show bV O mL_law 160 1226 [(6, .int w), (5, .int 0), (4, .int (nI t)), (3, .ref 46), (2, .ref 50), (1, .ref 32), (0, .ref 0)] [.int 0] (f8, n, s) Q
    refine r_iload (i := 5) 1 rfl dL_law_1226 ?_
    refine r_icmp_eq (tgt := 1233) (by decide) dL_law_1228 (fun _ => ?_) (fun h => absurd rfl h)
    refine r_iload (i := 5) 1 rfl dL_law_1233 ?_
    refine r_if_ne (tgt := 1250) (by decide) dL_law_1235 (fun h => absurd rfl h) (fun _ => ?_)
    have h468 : f8 46 = some (.inl (2, 1, .inr (.inl (vp_updL g 0 (df (cl (oX O (t + 1)))).toInt64)))) := (e8 46 (by omega)).trans (bU_s _ _ _)
    refine r_aload_n (n := 3) (i := 3) 3 rfl rfl dL_law_1238 ?_
    refine r_iconst (v := nI 0) (by decide) dL_law_1239 ?_
    refine p_laldN (t := 0) h468 (by decide) (by decide) dL_law_1240 ?_
    refine r_iload (i := 6) 0 rfl dL_law_1241 ?_
    refine r_i2l dL_law_1243 ?_
    refine r_lcmp dL_law_1244 ?_
    have hv : lg_cmp (vp_updL g 0 (df (cl (oX O (t + 1)))).toInt64 0) w.toInt64 = 0 := by
      rw [hw rfl]
      exact lg_cmp_self _
    refine r_if_eq (tgt := 1250) (by decide) dL_law_1245 (fun _ => ?_) (fun h => absurd hv h)
    refine r_goto (tgt := 1291) (by decide) dL_law_1250 ?_
    refine bV_loc [2, 3, 4, 5, 6] rfl ?_
    exact kk f8 _ _ (bs, tl, mc, md, ip, dc, dr, ac, an, hs, sd, df, dfn, td, tr, ft, pl) (XR_fr hX9 hJ.1 (fun q hq => e8 q (by omega))) hM8 hJ ⟨_, (e8 46 (by omega)).trans (bU_s _ _ _)⟩ (by omega) (by omega)
  · cases h8
    show bV O mL_law 160 1208 [(4, .int (nI t)), (3, .ref 46), (2, .ref 50), (1, .ref 32), (0, .ref 0)] [.int 1] (f, n + 1, s + 6) Q
    refine r_istore (i := 5) (L' := [(5, .int 1), (4, .int (nI t)), (3, .ref 46), (2, .ref 50), (1, .ref 32), (0, .ref 0)]) dL_law_1208 (by decide) rfl ?_
    have hM9 := hM
    have hX9 := hX
    obtain ⟨fs50, h50⟩ := MP_50 hM9
    refine r_aload_n (n := 2) (i := 2) 3 rfl rfl dL_law_1210 ?_
    refine r_aload_n (n := 0) (i := 0) 5 rfl rfl dL_law_1211 ?_
    refine r_iload (i := 4) 1 rfl dL_law_1212 ?_
    refine r_iconst (v := 1) (by decide) dL_law_1214 ?_
    refine r_iaddE (v := nI (t + 1)) (lw_ad (by decide +kernel)) dL_law_1215 ?_
    refine r_sldN (t := t + 1) (by omega) hN dL_law_1216 ?_
    refine p_callV (As := [.int (oX O (t + 1))]) (rest := []) (hm _ (n + 1) (s + 6) hM9) rfl lkL_148 imX11_differing seX11_differing rfl h50 rfl rfl (by decide) (Nat.le_of_ble_eq_true rfl) dL_law_1217 (fun v8 G8 h8 => ?_) (fun q8 G8 h8 => (by obtain ⟨v, h8, -⟩ := h8; cases h8))
    obtain ⟨f8, n8, s8⟩ := G8
    obtain ⟨w, e0, hM8, e8, eG, fs, h58, hw⟩ := h8
    cases e0
    have en : n8 = n + 1 := congrArg Prod.fst eG
    have es : s8 = s + 6 := congrArg Prod.snd eG
    rw [en, es]
    have hM8 : MP f8 (bs, tl, mc, md, ip, dc, dr, ac, an, hs, sd, df, dfn, td, tr, ft, pl) := hM8
    have e8 : ∀ q, (q < 50 ∨ (1000 ≤ q ∧ q < 5000)) → f8 q = f q := e8
    have h58 : f8 50 = some (.inr (11, .int (if inB (oX O (t + 1)) dfn = true then 0 else 1) :: fs)) := h58
    have hw : inB (oX O (t + 1)) dfn = true → w = df (cl (oX O (t + 1))) := hw
    show bV O mL_law 160 1220 [(5, .int 1), (4, .int (nI t)), (3, .ref 46), (2, .ref 50), (1, .ref 32), (0, .ref 0)] [.int w] (f8, n + 1, s + 6) Q
    refine r_istore (i := 6) (L' := [(6, .int w), (5, .int 1), (4, .int (nI t)), (3, .ref 46), (2, .ref 50), (1, .ref 32), (0, .ref 0)]) dL_law_1220 (by decide) rfl ?_
    refine r_aload_n (n := 2) (i := 2) 4 rfl rfl dL_law_1222 ?_
    refine p_callV (As := []) (rest := []) (m_thrown (O := O) (d := 159) (n := n + 1) (s := s + 6) h58 (by decide)).call rfl lkL_149 imX11_thrown seX11_thrown rfl h58 rfl rfl (by decide) (Nat.le_of_ble_eq_true rfl) dL_law_1223 (fun v7 G7 h9 => ?_) (fun q7 G7 h9 => (by cases h9.1))
    obtain ⟨e0, rfl⟩ := h9
    cases e0
    rw [h7] at h58 hw ⊢
    show bV O mL_law 160 1226 [(6, .int w), (5, .int 1), (4, .int (nI t)), (3, .ref 46), (2, .ref 50), (1, .ref 32), (0, .ref 0)] [.int 1] (f8, n + 1, s + 6) Q
    refine r_iload (i := 5) 1 rfl dL_law_1226 ?_
    refine r_icmp_eq (tgt := 1233) (by decide) dL_law_1228 (fun _ => ?_) (fun h => absurd rfl h)
    refine r_iload (i := 5) 1 rfl dL_law_1233 ?_
    refine r_if_ne (tgt := 1250) (by decide) dL_law_1235 (fun _ => ?_) (fun h => absurd h (by decide))
    refine r_goto (tgt := 1291) (by decide) dL_law_1250 ?_
    refine bV_loc [2, 3, 4, 5, 6] rfl ?_
    exact kk f8 _ _ (bs, tl, mc, md, ip, dc, dr, ac, an, hs, sd, df, dfn, td, tr, ft, pl) (XR_fr hX9 hJ.1 (fun q hq => e8 q (by omega))) hM8 hJ ⟨_, (e8 46 (by omega)).trans h46⟩ (by omega) (by omega)
set_option maxHeartbeats 1000000 in
theorem lw_c30 {O : bO} {Q : bR → bG → Prop} {f : bF} {n s t : Nat} {σ : SS} (hX : XR f σ) (hM : MP f σ) (hJ : JK σ) (h46 : ∃ g : Nat → Int64, f 46 = some (.inl (2, 1, .inr (.inl g)))) (hN : oN O ≤ 3072) (ht : t + 6 ≤ oN O) (kk : lw_go O Q n s t) : bV O mL_law 160 1253 [(4, .int (nI t)), (3, .ref 46), (2, .ref 50), (1, .ref 32), (0, .ref 0)] [] (f, n, s) Q := by
  obtain ⟨bs, tl, mc, md, ip, dc, dr, ac, an, hs, sd, df, dfn, td, tr, ft, pl⟩ := σ
  have hx := x_count (O := O) (d := 159) (n := n) (s := s) (w := oX O (t + 1)) hX (JJ_JX hJ.1) (by decide)
  have hm := fun (f9 : bF) (n9 s9 : Nat) (h9 : MP f9 (bs, tl, mc, md, ip, dc, dr, ac, an, hs, sd, df, dfn, td, tr, ft, pl)) => m_count (O := O) (d := 159) (n := n9) (s := s9) (w := oX O (t + 1)) h9 hJ.1 (by decide)
  have hj := j_count (w := oX O (t + 1)) hJ
  generalize s_count (bs, tl, mc, md, ip, dc, dr, ac, an, hs, sd, df, dfn, td, tr, ft, pl) (oX O (t + 1)) = R at hx hm hj
  generalize (bs, tl, mc, md, ip, dc, dr, ac, an, hs, sd, df, dfn, td, tr, ft, pl) = σ at hX hM hJ hm
  refine r_aload_n (n := 1) (i := 1) 3 rfl rfl dL_law_1253 ?_
  refine r_aload_n (n := 0) (i := 0) 4 rfl rfl dL_law_1254 ?_
  refine r_iload (i := 4) 0 rfl dL_law_1255 ?_
  refine r_iconst (v := 1) (by decide) dL_law_1257 ?_
  refine r_iaddE (v := nI (t + 1)) (lw_ad (by decide +kernel)) dL_law_1258 ?_
  refine r_sldN (t := t + 1) (by omega) hN dL_law_1259 ?_
  refine p_callV (As := [.int (oX O (t + 1))]) (rest := []) hx rfl lkL_152 imX7_count seX7_count rfl hX.1 rfl rfl (by decide) (Nat.le_of_ble_eq_true rfl) dL_law_1260 (fun v9 G9 h9 => ?_) (fun q9 G9 h9 => absurd h9 pX_nx)
  obtain ⟨f9, n9, s9⟩ := G9
  obtain ⟨e0, hX9, e9, hn9, hs9⟩ := h9
  cases e0
  have hn9 : n9 ≤ n + 0 := hn9
  have hs9 : s9 ≤ s + 0 := hs9
  have hM9 : MP f9 σ := MP_fr hM hJ.1 (fun q hq => e9 q (by omega))
  obtain ⟨fs50, h50⟩ := MP_50 hM9
  show bV O mL_law 160 1263 [(4, .int (nI t)), (3, .ref 46), (2, .ref 50), (1, .ref 32), (0, .ref 0)] [.int R.1] (f9, n9, s9) Q
  refine r_aload_n (n := 2) (i := 2) 2 rfl rfl dL_law_1263 ?_
  refine r_aload_n (n := 0) (i := 0) 4 rfl rfl dL_law_1264 ?_
  refine r_iload (i := 4) 0 rfl dL_law_1265 ?_
  refine r_iconst (v := 1) (by decide) dL_law_1267 ?_
  refine r_iaddE (v := nI (t + 1)) (lw_ad (by decide +kernel)) dL_law_1268 ?_
  refine r_sldN (t := t + 1) (by omega) hN dL_law_1269 ?_
  refine p_callV (As := [.int (oX O (t + 1))]) (rest := [.int R.1]) (hm f9 n9 s9 hM9) rfl lkL_155 imX11_count seX11_count rfl h50 rfl rfl (by decide) (Nat.le_of_ble_eq_true rfl) dL_law_1270 (fun v8 G8 h8 => ?_) (fun q8 G8 h8 => absurd h8 pM_nx)
  obtain ⟨f8, n8, s8⟩ := G8
  obtain ⟨e0, hM8, e8, hn8, hs8⟩ := h8
  cases e0
  have hn8 : n8 ≤ n9 + 0 := hn8
  have hs8 : s8 ≤ s9 + 0 := hs8
  show bV O mL_law 160 1273 [(4, .int (nI t)), (3, .ref 46), (2, .ref 50), (1, .ref 32), (0, .ref 0)] [.int R.1, .int R.1] (f8, n8, s8) Q
  refine r_icmp_eq (tgt := 1291) (by decide) dL_law_1273 (fun _ => ?_) (fun h => absurd rfl h)
  obtain ⟨g, h46⟩ := h46
  exact kk f8 n8 s8 R.2 (XR_fr hX9 hj.1 (fun q hq => e8 q (by omega))) hM8 hj ⟨g, (e8 46 (by omega)).trans ((e9 46 (by omega)).trans h46)⟩ (by omega) (by omega)
set_option maxHeartbeats 1000000 in
theorem lw_c31 {O : bO} {Q : bR → bG → Prop} {f : bF} {n s t : Nat} {σ : SS} (hX : XR f σ) (hM : MP f σ) (hJ : JK σ) (h46 : ∃ g : Nat → Int64, f 46 = some (.inl (2, 1, .inr (.inl g)))) (hN : oN O ≤ 3072) (ht : t + 6 ≤ oN O) (kk : lw_go O Q n s t) : bV O mL_law 160 1278 [(4, .int (nI t)), (3, .ref 46), (2, .ref 50), (1, .ref 32), (0, .ref 0)] [] (f, n, s) Q := by
  obtain ⟨bs, tl, mc, md, ip, dc, dr, ac, an, hs, sd, df, dfn, td, tr, ft, pl⟩ := σ
  have hx := x_trouble (O := O) (d := 159) (n := n) (s := s)  hX (JJ_JX hJ.1) (by decide)
  have hm := fun (f9 : bF) (n9 s9 : Nat) (h9 : MP f9 (bs, tl, mc, md, ip, dc, dr, ac, an, hs, sd, df, dfn, td, tr, ft, pl)) => m_trouble (O := O) (d := 159) (n := n9) (s := s9)  h9 hJ.1 (by decide)
  have hj := j_trouble  hJ
  generalize s_trouble (bs, tl, mc, md, ip, dc, dr, ac, an, hs, sd, df, dfn, td, tr, ft, pl)  = R at hx hm hj
  generalize (bs, tl, mc, md, ip, dc, dr, ac, an, hs, sd, df, dfn, td, tr, ft, pl) = σ at hX hM hJ hm
  refine r_aload_n (n := 1) (i := 1) 3 rfl rfl dL_law_1278 ?_
  refine p_callV (As := []) (rest := []) hx rfl lkL_156 imX7_trouble seX7_trouble rfl hX.1 rfl rfl (by decide) (Nat.le_of_ble_eq_true rfl) dL_law_1279 (fun v9 G9 h9 => ?_) (fun q9 G9 h9 => absurd h9 pX_nx)
  obtain ⟨f9, n9, s9⟩ := G9
  obtain ⟨e0, hX9, e9, hn9, hs9⟩ := h9
  cases e0
  have hn9 : n9 ≤ n + 0 := hn9
  have hs9 : s9 ≤ s + 0 := hs9
  have hM9 : MP f9 σ := MP_fr hM hJ.1 (fun q hq => e9 q (by omega))
  obtain ⟨fs50, h50⟩ := MP_50 hM9
  show bV O mL_law 160 1282 [(4, .int (nI t)), (3, .ref 46), (2, .ref 50), (1, .ref 32), (0, .ref 0)] [.int R.1] (f9, n9, s9) Q
  refine r_aload_n (n := 2) (i := 2) 2 rfl rfl dL_law_1282 ?_
  refine p_callV (As := []) (rest := [.int R.1]) (hm f9 n9 s9 hM9) rfl lkL_159 imX11_trouble seX11_trouble rfl h50 rfl rfl (by decide) (Nat.le_of_ble_eq_true rfl) dL_law_1283 (fun v8 G8 h8 => ?_) (fun q8 G8 h8 => absurd h8 pM_nx)
  obtain ⟨f8, n8, s8⟩ := G8
  obtain ⟨e0, hM8, e8, hn8, hs8⟩ := h8
  cases e0
  have hn8 : n8 ≤ n9 + 0 := hn8
  have hs8 : s8 ≤ s9 + 0 := hs8
  show bV O mL_law 160 1286 [(4, .int (nI t)), (3, .ref 46), (2, .ref 50), (1, .ref 32), (0, .ref 0)] [.int R.1, .int R.1] (f8, n8, s8) Q
  refine r_icmp_eq (tgt := 1291) (by decide) dL_law_1286 (fun _ => ?_) (fun h => absurd rfl h)
  obtain ⟨g, h46⟩ := h46
  exact kk f8 n8 s8 R.2 (XR_fr hX9 hj.1 (fun q hq => e8 q (by omega))) hM8 hj ⟨g, (e8 46 (by omega)).trans ((e9 46 (by omega)).trans h46)⟩ (by omega) (by omega)
