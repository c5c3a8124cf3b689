/-! the model does a command -/
/-- what a command does -/
def zdC (k a b c : Int) (V : Int → Int) : zO := if k = 1 then zdAT a b c V else if k = 2 then zdAH a V else if k = 3 then zdSay a b c V else if k = 4 then zdLi a True V else if k = 5 then zdLi a False V else if k = 6 then zdMv a b V else if k = 7 then zdPT a V else zdAC V
theorem zdC_args {k : Int} {r r' : Int → Int} {V : Int → Int} (h0 : 0 ≤ k) (h1 : k < 8) (h : ∀ j, 0 ≤ j → j < zkm k → r j = r' j) : zdC k (r 0) (r 1) (r 2) V = zdC k (r' 0) (r' 1) (r' 2) V := by
  have e : k = 0 ∨ k = 1 ∨ k = 2 ∨ k = 3 ∨ k = 4 ∨ k = 5 ∨ k = 6 ∨ k = 7 := by omega
  rcases e with rfl | rfl | rfl | rfl | rfl | rfl | rfl | rfl
  · rfl
  · rw [h 0 (by decide) (by decide), h 1 (by decide) (by decide), h 2 (by decide) (by decide)]
  · show zdAH (r 0) V = zdAH (r' 0) V
    rw [h 0 (by decide) (by decide)]
  · rw [h 0 (by decide) (by decide), h 1 (by decide) (by decide), h 2 (by decide) (by decide)]
  · show zdLi (r 0) True V = zdLi (r' 0) True V
    rw [h 0 (by decide) (by decide)]
  · show zdLi (r 0) False V = zdLi (r' 0) False V
    rw [h 0 (by decide) (by decide)]
  · show zdMv (r 0) (r 1) V = zdMv (r' 0) (r' 1) V
    rw [h 0 (by decide) (by decide), h 1 (by decide) (by decide)]
  · show zdPT (r 0) V = zdPT (r' 0) V
    rw [h 0 (by decide) (by decide)]
/-- the kind that a sign of the model stands for -/
def zki (v : Int) : Int := if v = 117 then 1 else if v = 104 then 2 else if v = 115 then 3 else if v = 108 then 4 else if v = 122 then 5 else if v = 103 then 6 else if v = 116 then 7 else 0
theorem zkc_iv {k : Int} (h0 : 0 ≤ k) (h1 : k < 8) : k = zki (zkc k) := by
  have e : k = 0 ∨ k = 1 ∨ k = 2 ∨ k = 3 ∨ k = 4 ∨ k = 5 ∨ k = 6 ∨ k = 7 := by omega
  rcases e with rfl | rfl | rfl | rfl | rfl | rfl | rfl | rfl <;> rfl
theorem zrow_404 {M : zMem} {r : Int → Int} : zrow (zrow M 399 r) 404 (M 404) = zrow M 399 r := by
  have h := zrow_eta (zrow M 399 r) 404
  rw [zrow_ne (by decide)] at h
  exact h

theorem kv_X12_does : zKV yX12_does cX12_does 6 none "DrumWarrenModel" 1 := ⟨zk_2054, zk_2053, zk_63, zk_80, by decide, by decide, by decide +kernel⟩
set_option maxHeartbeats 4000000 in
set_option maxRecDepth 100000 in
theorem ct_X12_does (l : Launch) (g : zG) (ad : Int → Nat) (zM0 zF0 : zMem) (zt kk : Int) (x0 : Int) (hx0 : zR x0) (hk : 0 ≤ x0 ∧ x0 < 60) (hkk : 0 ≤ kk ∧ kk < 8) (hc : zM0 407 (4 * x0) = zkc kk) (hI : zIV zt (zM0 399)) (htd : zTD (zM0 399)) (ht : zt ≤ 80000000) : zMt l yX12_does cX12_does 6 none 8 0 0 g 410 ad [.ref (ad 398), .int (zI x0)] zM0 zF0 (zPv (fun M' F' => (∃ w : Int → Int, (0 < (zdC kk (zM0 407 (4 * x0 + 1)) (zM0 407 (4 * x0 + 2)) (zM0 407 (4 * x0 + 3)) (zM0 399)).1 ∧ zu zM0 398 8 (zdC kk (zM0 407 (4 * x0 + 1)) (zM0 407 (4 * x0 + 2)) (zM0 407 (4 * x0 + 3)) (zM0 399)).1 = M') ∨ ((zdC kk (zM0 407 (4 * x0 + 1)) (zM0 407 (4 * x0 + 2)) (zM0 407 (4 * x0 + 3)) (zM0 399)).1 = 0 ∧ zrow (zrow zM0 399 (zdC kk (zM0 407 (4 * x0 + 1)) (zM0 407 (4 * x0 + 2)) (zM0 407 (4 * x0 + 3)) (zM0 399)).2.2) 404 w = M')) ∧ zF0 = F')) := by
  refine zMt.of "DrumWarrenModel" rfl (by decide +kernel) (Nat.le_of_ble_eq_true rfl) (fun {p e s m args below meth c ls} C0 Wd hl hret hlk hin => ?_)
  have hl : lv_has ls 6 [(0, .ref (ad 398)), (1, .int (zI x0))] := hl
  have h0b := hI.1
  have h1b := hI.2.1
  have h2b := hI.2.2.1
  have h3b := hI.2.2.2.1 3 (by decide) (by decide)
  refine z_aload_n C0 hl 0 rfl dX12_does_0 ?_
  refine zg_9_17 C0 Wd zN398 zK398 zk_1629 dX12_does_1 ?_
  refine z_iconst C0 dX12_does_4 ?_
  refine z_iload_n C0 hl 1 rfl dX12_does_5 ?_
  refine z_imul C0 dX12_does_6 ?_
  refine z_iconst C0 dX12_does_7 ?_
  refine z_iadd C0 dX12_does_8 ?_
  refine z_iald C0 Wd zN407 zK407 zL407 (by omega) (by omega) (by decide) dX12_does_9 ?_
  have hz1 : zR (zM0 407 ((4 * x0) + 1)) := Wd.rm _ _
  refine z_istore_n C0 hl [(2, .int (zI (zM0 407 ((4 * x0) + 1)))), (0, .ref (ad 398)), (1, .int (zI x0))] (by decide) rfl dX12_does_10 (fun ls hl => ?_)
  refine z_aload_n C0 hl 1 rfl dX12_does_11 ?_
  refine zg_9_17 C0 Wd zN398 zK398 zk_1629 dX12_does_12 ?_
  refine z_iconst C0 dX12_does_15 ?_
  refine z_iload_n C0 hl 2 rfl dX12_does_16 ?_
  refine z_imul C0 dX12_does_17 ?_
  refine z_iconst C0 dX12_does_18 ?_
  refine z_iadd C0 dX12_does_19 ?_
  refine z_iald C0 Wd zN407 zK407 zL407 (by omega) (by omega) (by decide) dX12_does_20 ?_
  have hz2 : zR (zM0 407 ((4 * x0) + 2)) := Wd.rm _ _
  refine z_istore_n C0 hl [(3, .int (zI (zM0 407 ((4 * x0) + 2)))), (2, .int (zI (zM0 407 ((4 * x0) + 1)))), (0, .ref (ad 398)), (1, .int (zI x0))] (by decide) rfl dX12_does_21 (fun ls hl => ?_)
  refine z_aload_n C0 hl 2 rfl dX12_does_22 ?_
  refine zg_9_17 C0 Wd zN398 zK398 zk_1629 dX12_does_23 ?_
  refine z_iconst C0 dX12_does_26 ?_
  refine z_iload_n C0 hl 3 rfl dX12_does_27 ?_
  refine z_imul C0 dX12_does_28 ?_
  refine z_iconst C0 dX12_does_29 ?_
  refine z_iadd C0 dX12_does_30 ?_
  refine z_iald C0 Wd zN407 zK407 zL407 (by omega) (by omega) (by decide) dX12_does_31 ?_
  have hz3 : zR (zM0 407 ((4 * x0) + 3)) := Wd.rm _ _
  refine z_istore C0 hl [(4, .int (zI (zM0 407 ((4 * x0) + 3)))), (3, .int (zI (zM0 407 ((4 * x0) + 2)))), (2, .int (zI (zM0 407 ((4 * x0) + 1)))), (0, .ref (ad 398)), (1, .int (zI x0))] (by decide) rfl dX12_does_32 (fun ls hl => ?_)
  refine z_aload_n C0 hl 3 rfl dX12_does_34 ?_
  refine zg_9_17 C0 Wd zN398 zK398 zk_1629 dX12_does_35 ?_
  refine z_iconst C0 dX12_does_38 ?_
  refine z_iload_n C0 hl 4 rfl dX12_does_39 ?_
  refine z_imul C0 dX12_does_40 ?_
  refine z_iald C0 Wd zN407 zK407 zL407 (by omega) (by omega) (by decide) dX12_does_41 ?_
  obtain ⟨he5, hz4⟩ : (zM0 407 (4 * x0)) = (zkc kk) ∧ zR (zkc kk) := (fun q => ⟨q, q ▸ Wd.rm _ _⟩) hc
  refine z_top (congrArg zI he5) ?_
  clear he5
  refine z_table C0 hz4 dX12_does_42 (by decide) (fun v => if v = 103 then 210 else (if v = 104 then 200 else (if v = 108 then 159 else (if v = 115 then 187 else (if v = 116 then 149 else (if v = 117 then 136 else (if v = 122 then 159 else 221))))))) (by decide) (fun v hv => by show (if v = 103 then 210 else (if v = 104 then 200 else (if v = 108 then 159 else (if v = 115 then 187 else (if v = 116 then 149 else (if v = 117 then 136 else (if v = 122 then 159 else 221)))))) : Nat) = 221; rw [if_neg (by omega), if_neg (by omega), if_neg (by omega), if_neg (by omega), if_neg (by omega), if_neg (by omega), if_neg (by omega)]) (by decide) ?_
  refine z_ite (fun t6 => ?_) (fun t6 => ?_)
  · skip
    refine z_aload_n C0 hl 3 rfl dX12_does_210 ?_
    refine z_iload_n C0 hl 2 rfl dX12_does_211 ?_
    refine z_iload_n C0 hl 1 rfl dX12_does_212 ?_
    refine z_invVi (As := [.int (zI (zM0 407 ((4 * x0) + 1))), .int (zI (zM0 407 ((4 * x0) + 2)))]) (rest := []) C0 Wd (ct_X12_doMove l g ad zM0 zF0 (zM0 407 ((4 * x0) + 1)) hz1 (zM0 407 ((4 * x0) + 2)) hz2 (by omega) (by omega) (by omega)) kv_X12_doMove zN398 (zE_9 zK398) rfl zk_1789 rfl hl.1 rfl (Nat.le_of_ble_eq_true rfl) (by decide) (by decide) dX12_does_213 (fun r7 zMr7 zFr7 H locs hrr7 hp Wd => ?_)
    rcases hp with ⟨hr7_0_0, rfl, rfl, rfl⟩ | ⟨hr7_1_0, rfl, rfl, rfl⟩
    · skip
      refine z_istore C0 hl [(5, .int (zI 0)), (4, .int (zI (zM0 407 ((4 * x0) + 3)))), (3, .int (zI (zM0 407 ((4 * x0) + 2)))), (2, .int (zI (zM0 407 ((4 * x0) + 1)))), (0, .ref (ad 398)), (1, .int (zI x0))] (by decide) rfl dX12_does_216 (fun ls hl => ?_)
      refine z_goto C0 (tgt := 227) dX12_does_218 (by decide) ?_
      have hkk9 : kk = 6 := by rw [zkc_iv hkk.1 hkk.2, t6]; rfl
      have hD : (zdC kk (zM0 407 (4 * x0 + 1)) (zM0 407 (4 * x0 + 2)) (zM0 407 (4 * x0 + 3)) (zM0 399)) = zdMv (zM0 407 (4 * x0 + 1)) (zM0 407 (4 * x0 + 2)) (zM0 399) := by rw [hkk9]; rfl
      exact z_vret C0 Wd hret hlk ⟨⟨zM0 404, Or.inl ⟨by rw [hD]; exact hr7_0_0, by rw [hD]⟩⟩, rfl⟩ dX12_does_227
    · skip
      refine z_istore C0 hl [(5, .int (zI ((zdMv (zM0 407 ((4 * x0) + 1)) (zM0 407 ((4 * x0) + 2)) (zM0 399)).2.1))), (4, .int (zI (zM0 407 ((4 * x0) + 3)))), (3, .int (zI (zM0 407 ((4 * x0) + 2)))), (2, .int (zI (zM0 407 ((4 * x0) + 1)))), (0, .ref (ad 398)), (1, .int (zI x0))] (by decide) rfl dX12_does_216 (fun ls hl => ?_)
      refine z_goto C0 (tgt := 227) dX12_does_218 (by decide) ?_
      have hkk9 : kk = 6 := by rw [zkc_iv hkk.1 hkk.2, t6]; rfl
      have hD : (zdC kk (zM0 407 (4 * x0 + 1)) (zM0 407 (4 * x0 + 2)) (zM0 407 (4 * x0 + 3)) (zM0 399)) = zdMv (zM0 407 (4 * x0 + 1)) (zM0 407 (4 * x0 + 2)) (zM0 399) := by rw [hkk9]; rfl
      exact z_vret C0 Wd hret hlk ⟨⟨zM0 404, Or.inr ⟨by rw [hD]; exact hr7_1_0, by rw [hD]; exact zrow_404⟩⟩, rfl⟩ dX12_does_227
  refine z_ite (fun t9 => ?_) (fun t9 => ?_)
  · skip
    refine z_aload_n C0 hl 3 rfl dX12_does_200 ?_
    refine z_iload_n C0 hl 2 rfl dX12_does_201 ?_
    refine z_invVi (As := [.int (zI (zM0 407 ((4 * x0) + 1)))]) (rest := []) C0 Wd (ct_X12_doAddHare l g ad zM0 zF0 (zM0 407 ((4 * x0) + 1)) hz1 (by omega) (by omega)) kv_X12_doAddHare zN398 (zE_9 zK398) rfl zk_1781 rfl hl.1 rfl (Nat.le_of_ble_eq_true rfl) (by decide) (by decide) dX12_does_202 (fun r10 zMr10 zFr10 H locs hrr10 hp Wd => ?_)
    rcases hp with ⟨hr10_0_0, rfl, rfl, rfl⟩ | ⟨hr10_1_0, rfl, rfl, rfl⟩
    · skip
      refine z_istore C0 hl [(5, .int (zI 0)), (4, .int (zI (zM0 407 ((4 * x0) + 3)))), (3, .int (zI (zM0 407 ((4 * x0) + 2)))), (2, .int (zI (zM0 407 ((4 * x0) + 1)))), (0, .ref (ad 398)), (1, .int (zI x0))] (by decide) rfl dX12_does_205 (fun ls hl => ?_)
      refine z_goto C0 (tgt := 227) dX12_does_207 (by decide) ?_
      have hkk9 : kk = 2 := by rw [zkc_iv hkk.1 hkk.2, t9]; rfl
      have hD : (zdC kk (zM0 407 (4 * x0 + 1)) (zM0 407 (4 * x0 + 2)) (zM0 407 (4 * x0 + 3)) (zM0 399)) = zdAH (zM0 407 (4 * x0 + 1)) (zM0 399) := by rw [hkk9]; rfl
      exact z_vret C0 Wd hret hlk ⟨⟨zM0 404, Or.inl ⟨by rw [hD]; exact hr10_0_0, by rw [hD]⟩⟩, rfl⟩ dX12_does_227
    · skip
      refine z_istore C0 hl [(5, .int (zI ((zdAH (zM0 407 ((4 * x0) + 1)) (zM0 399)).2.1))), (4, .int (zI (zM0 407 ((4 * x0) + 3)))), (3, .int (zI (zM0 407 ((4 * x0) + 2)))), (2, .int (zI (zM0 407 ((4 * x0) + 1)))), (0, .ref (ad 398)), (1, .int (zI x0))] (by decide) rfl dX12_does_205 (fun ls hl => ?_)
      refine z_goto C0 (tgt := 227) dX12_does_207 (by decide) ?_
      have hkk9 : kk = 2 := by rw [zkc_iv hkk.1 hkk.2, t9]; rfl
      have hD : (zdC kk (zM0 407 (4 * x0 + 1)) (zM0 407 (4 * x0 + 2)) (zM0 407 (4 * x0 + 3)) (zM0 399)) = zdAH (zM0 407 (4 * x0 + 1)) (zM0 399) := by rw [hkk9]; rfl
      exact z_vret C0 Wd hret hlk ⟨⟨zM0 404, Or.inr ⟨by rw [hD]; exact hr10_1_0, by rw [hD]; exact zrow_404⟩⟩, rfl⟩ dX12_does_227
  refine z_ite (fun t12 => ?_) (fun t12 => ?_)
  · skip
    refine z_aload_n C0 hl 3 rfl dX12_does_159 ?_
    refine z_iload_n C0 hl 2 rfl dX12_does_160 ?_
    refine z_aload_n C0 hl 3 rfl dX12_does_161 ?_
    refine zg_9_17 C0 Wd zN398 zK398 zk_1629 dX12_does_162 ?_
    refine z_iconst C0 dX12_does_165 ?_
    refine z_iload_n C0 hl 4 rfl dX12_does_166 ?_
    refine z_imul C0 dX12_does_167 ?_
    refine z_iald C0 Wd zN407 zK407 zL407 (by omega) (by omega) (by decide) dX12_does_168 ?_
    obtain ⟨he14, hz13⟩ : (zM0 407 (4 * x0)) = (zkc kk) ∧ zR (zkc kk) := (fun q => ⟨q, q ▸ Wd.rm _ _⟩) hc
    refine z_top (congrArg zI he14) ?_
    clear he14
    refine z_bipush C0 dX12_does_169 (by decide) ?_
    refine z_icmp_ne C0 (tgt := 178) hz13 (zR_mk (by decide) (by decide)) dX12_does_171 (by decide) (fun c15 => absurd c15 (by omega)) (fun c15 => ?_)
    refine z_iconst C0 dX12_does_174 ?_
    refine z_goto C0 (tgt := 179) dX12_does_175 (by decide) ?_
    refine z_invVi (As := [.int (zI (zM0 407 ((4 * x0) + 1))), .int (zI 1)]) (rest := []) C0 Wd (ct_X12_doListen l g ad zM0 zF0 (zM0 407 ((4 * x0) + 1)) hz1 True (by omega)) kv_X12_doListen zN398 (zE_9 zK398) rfl zk_1813 rfl hl.1 rfl (Nat.le_of_ble_eq_true rfl) (by decide) (by decide) dX12_does_179 (fun r16 zMr16 zFr16 H locs hrr16 hp Wd => ?_)
    rcases hp with ⟨hr16_0_0, rfl, rfl, rfl⟩ | ⟨hr16_1_0, rfl, rfl, rfl⟩
    · skip
      refine z_istore C0 hl [(5, .int (zI 0)), (4, .int (zI (zM0 407 ((4 * x0) + 3)))), (3, .int (zI (zM0 407 ((4 * x0) + 2)))), (2, .int (zI (zM0 407 ((4 * x0) + 1)))), (0, .ref (ad 398)), (1, .int (zI x0))] (by decide) rfl dX12_does_182 (fun ls hl => ?_)
      refine z_goto C0 (tgt := 227) dX12_does_184 (by decide) ?_
      have hkk9 : kk = 4 := by rw [zkc_iv hkk.1 hkk.2, t12]; rfl
      have hD : (zdC kk (zM0 407 (4 * x0 + 1)) (zM0 407 (4 * x0 + 2)) (zM0 407 (4 * x0 + 3)) (zM0 399)) = zdLi (zM0 407 (4 * x0 + 1)) True (zM0 399) := by rw [hkk9]; rfl
      exact z_vret C0 Wd hret hlk ⟨⟨zM0 404, Or.inl ⟨by rw [hD]; exact hr16_0_0, by rw [hD]⟩⟩, rfl⟩ dX12_does_227
    · skip
      refine z_istore C0 hl [(5, .int (zI ((zdLi (zM0 407 ((4 * x0) + 1)) (True) (zM0 399)).2.1))), (4, .int (zI (zM0 407 ((4 * x0) + 3)))), (3, .int (zI (zM0 407 ((4 * x0) + 2)))), (2, .int (zI (zM0 407 ((4 * x0) + 1)))), (0, .ref (ad 398)), (1, .int (zI x0))] (by decide) rfl dX12_does_182 (fun ls hl => ?_)
      refine z_goto C0 (tgt := 227) dX12_does_184 (by decide) ?_
      have hkk9 : kk = 4 := by rw [zkc_iv hkk.1 hkk.2, t12]; rfl
      have hD : (zdC kk (zM0 407 (4 * x0 + 1)) (zM0 407 (4 * x0 + 2)) (zM0 407 (4 * x0 + 3)) (zM0 399)) = zdLi (zM0 407 (4 * x0 + 1)) True (zM0 399) := by rw [hkk9]; rfl
      exact z_vret C0 Wd hret hlk ⟨⟨zM0 404, Or.inr ⟨by rw [hD]; exact hr16_1_0, by rw [hD]; exact zrow_404⟩⟩, rfl⟩ dX12_does_227
  refine z_ite (fun t18 => ?_) (fun t18 => ?_)
  · skip
    refine z_aload_n C0 hl 3 rfl dX12_does_187 ?_
    refine z_iload_n C0 hl 2 rfl dX12_does_188 ?_
    refine z_iload_n C0 hl 1 rfl dX12_does_189 ?_
    refine z_iload C0 hl 0 rfl dX12_does_190 ?_
    refine z_invVi (As := [.int (zI (zM0 407 ((4 * x0) + 1))), .int (zI (zM0 407 ((4 * x0) + 2))), .int (zI (zM0 407 ((4 * x0) + 3)))]) (rest := []) C0 Wd (ct_X12_doSay l g ad zM0 zF0 (zM0 407 ((4 * x0) + 1)) hz1 (zM0 407 ((4 * x0) + 2)) hz2 (zM0 407 ((4 * x0) + 3)) hz3 (by omega) (by omega) (by omega)) kv_X12_doSay zN398 (zE_9 zK398) rfl zk_1849 rfl hl.1 rfl (Nat.le_of_ble_eq_true rfl) (by decide) (by decide) dX12_does_192 (fun r19 zMr19 zFr19 H locs hrr19 hp Wd => ?_)
    rcases hp with ⟨hr19_0_0, rfl, rfl, rfl⟩ | ⟨hr19_1_0, rfl, rfl, rfl⟩
    · skip
      refine z_istore C0 hl [(5, .int (zI 0)), (4, .int (zI (zM0 407 ((4 * x0) + 3)))), (3, .int (zI (zM0 407 ((4 * x0) + 2)))), (2, .int (zI (zM0 407 ((4 * x0) + 1)))), (0, .ref (ad 398)), (1, .int (zI x0))] (by decide) rfl dX12_does_195 (fun ls hl => ?_)
      refine z_goto C0 (tgt := 227) dX12_does_197 (by decide) ?_
      have hkk9 : kk = 3 := by rw [zkc_iv hkk.1 hkk.2, t18]; rfl
      have hD : (zdC kk (zM0 407 (4 * x0 + 1)) (zM0 407 (4 * x0 + 2)) (zM0 407 (4 * x0 + 3)) (zM0 399)) = zdSay (zM0 407 (4 * x0 + 1)) (zM0 407 (4 * x0 + 2)) (zM0 407 (4 * x0 + 3)) (zM0 399) := by rw [hkk9]; rfl
      exact z_vret C0 Wd hret hlk ⟨⟨zM0 404, Or.inl ⟨by rw [hD]; exact hr19_0_0, by rw [hD]⟩⟩, rfl⟩ dX12_does_227
    · skip
      refine z_istore C0 hl [(5, .int (zI ((zdSay (zM0 407 ((4 * x0) + 1)) (zM0 407 ((4 * x0) + 2)) (zM0 407 ((4 * x0) + 3)) (zM0 399)).2.1))), (4, .int (zI (zM0 407 ((4 * x0) + 3)))), (3, .int (zI (zM0 407 ((4 * x0) + 2)))), (2, .int (zI (zM0 407 ((4 * x0) + 1)))), (0, .ref (ad 398)), (1, .int (zI x0))] (by decide) rfl dX12_does_195 (fun ls hl => ?_)
      refine z_goto C0 (tgt := 227) dX12_does_197 (by decide) ?_
      have hkk9 : kk = 3 := by rw [zkc_iv hkk.1 hkk.2, t18]; rfl
      have hD : (zdC kk (zM0 407 (4 * x0 + 1)) (zM0 407 (4 * x0 + 2)) (zM0 407 (4 * x0 + 3)) (zM0 399)) = zdSay (zM0 407 (4 * x0 + 1)) (zM0 407 (4 * x0 + 2)) (zM0 407 (4 * x0 + 3)) (zM0 399) := by rw [hkk9]; rfl
      exact z_vret C0 Wd hret hlk ⟨⟨zM0 404, Or.inr ⟨by rw [hD]; exact hr19_1_0, by rw [hD]; exact zrow_404⟩⟩, rfl⟩ dX12_does_227
  refine z_ite (fun t21 => ?_) (fun t21 => ?_)
  · skip
    refine z_aload_n C0 hl 3 rfl dX12_does_149 ?_
    refine z_iload_n C0 hl 2 rfl dX12_does_150 ?_
    refine z_invVi (As := [.int (zI (zM0 407 ((4 * x0) + 1)))]) (rest := []) C0 Wd (ct_X12_doPassTicks l g ad zM0 zF0 zt (zM0 407 ((4 * x0) + 1)) hz1 hI htd ht) kv_X12_doPassTicks zN398 (zE_9 zK398) rfl zk_1916 rfl hl.1 rfl (Nat.le_of_ble_eq_true rfl) (by decide) (by decide) dX12_does_151 (fun r22 zMr22 zFr22 H locs hrr22 hp Wd => ?_)
    rcases hp with ⟨hr22_0_0, rfl, rfl, rfl⟩ | ⟨w_r22, hr22_1_0, rfl, rfl, rfl⟩
    · skip
      refine z_istore C0 hl [(5, .int (zI 0)), (4, .int (zI (zM0 407 ((4 * x0) + 3)))), (3, .int (zI (zM0 407 ((4 * x0) + 2)))), (2, .int (zI (zM0 407 ((4 * x0) + 1)))), (0, .ref (ad 398)), (1, .int (zI x0))] (by decide) rfl dX12_does_154 (fun ls hl => ?_)
      refine z_goto C0 (tgt := 227) dX12_does_156 (by decide) ?_
      have hkk9 : kk = 7 := by rw [zkc_iv hkk.1 hkk.2, t21]; rfl
      have hD : (zdC kk (zM0 407 (4 * x0 + 1)) (zM0 407 (4 * x0 + 2)) (zM0 407 (4 * x0 + 3)) (zM0 399)) = zdPT (zM0 407 (4 * x0 + 1)) (zM0 399) := by rw [hkk9]; rfl
      exact z_vret C0 Wd hret hlk ⟨⟨zM0 404, Or.inl ⟨by rw [hD]; exact hr22_0_0, by rw [hD]⟩⟩, rfl⟩ dX12_does_227
    · skip
      refine z_istore C0 hl [(5, .int (zI ((zdPT (zM0 407 ((4 * x0) + 1)) (zM0 399)).2.1))), (4, .int (zI (zM0 407 ((4 * x0) + 3)))), (3, .int (zI (zM0 407 ((4 * x0) + 2)))), (2, .int (zI (zM0 407 ((4 * x0) + 1)))), (0, .ref (ad 398)), (1, .int (zI x0))] (by decide) rfl dX12_does_154 (fun ls hl => ?_)
      refine z_goto C0 (tgt := 227) dX12_does_156 (by decide) ?_
      have hkk9 : kk = 7 := by rw [zkc_iv hkk.1 hkk.2, t21]; rfl
      have hD : (zdC kk (zM0 407 (4 * x0 + 1)) (zM0 407 (4 * x0 + 2)) (zM0 407 (4 * x0 + 3)) (zM0 399)) = zdPT (zM0 407 (4 * x0 + 1)) (zM0 399) := by rw [hkk9]; rfl
      exact z_vret C0 Wd hret hlk ⟨⟨w_r22, Or.inr ⟨by rw [hD]; exact hr22_1_0, by rw [hD]⟩⟩, rfl⟩ dX12_does_227
  refine z_ite (fun t24 => ?_) (fun t24 => ?_)
  · skip
    refine z_aload_n C0 hl 3 rfl dX12_does_136 ?_
    refine z_iload_n C0 hl 2 rfl dX12_does_137 ?_
    refine z_iload_n C0 hl 1 rfl dX12_does_138 ?_
    refine z_iload C0 hl 0 rfl dX12_does_139 ?_
    refine z_invVi (As := [.int (zI (zM0 407 ((4 * x0) + 1))), .int (zI (zM0 407 ((4 * x0) + 2))), .int (zI (zM0 407 ((4 * x0) + 3)))]) (rest := []) C0 Wd (ct_X12_doAddTunnel l g ad zM0 zF0 (zM0 407 ((4 * x0) + 1)) hz1 (zM0 407 ((4 * x0) + 2)) hz2 (zM0 407 ((4 * x0) + 3)) hz3 (by omega)) kv_X12_doAddTunnel zN398 (zE_9 zK398) rfl zk_1699 rfl hl.1 rfl (Nat.le_of_ble_eq_true rfl) (by decide) (by decide) dX12_does_141 (fun r25 zMr25 zFr25 H locs hrr25 hp Wd => ?_)
    rcases hp with ⟨hr25_0_0, rfl, rfl, rfl⟩ | ⟨hr25_1_0, rfl, rfl, rfl⟩
    · skip
      refine z_istore C0 hl [(5, .int (zI 0)), (4, .int (zI (zM0 407 ((4 * x0) + 3)))), (3, .int (zI (zM0 407 ((4 * x0) + 2)))), (2, .int (zI (zM0 407 ((4 * x0) + 1)))), (0, .ref (ad 398)), (1, .int (zI x0))] (by decide) rfl dX12_does_144 (fun ls hl => ?_)
      refine z_goto C0 (tgt := 227) dX12_does_146 (by decide) ?_
      have hkk9 : kk = 1 := by rw [zkc_iv hkk.1 hkk.2, t24]; rfl
      have hD : (zdC kk (zM0 407 (4 * x0 + 1)) (zM0 407 (4 * x0 + 2)) (zM0 407 (4 * x0 + 3)) (zM0 399)) = zdAT (zM0 407 (4 * x0 + 1)) (zM0 407 (4 * x0 + 2)) (zM0 407 (4 * x0 + 3)) (zM0 399) := by rw [hkk9]; rfl
      exact z_vret C0 Wd hret hlk ⟨⟨zM0 404, Or.inl ⟨by rw [hD]; exact hr25_0_0, by rw [hD]⟩⟩, rfl⟩ dX12_does_227
    · skip
      refine z_istore C0 hl [(5, .int (zI ((zdAT (zM0 407 ((4 * x0) + 1)) (zM0 407 ((4 * x0) + 2)) (zM0 407 ((4 * x0) + 3)) (zM0 399)).2.1))), (4, .int (zI (zM0 407 ((4 * x0) + 3)))), (3, .int (zI (zM0 407 ((4 * x0) + 2)))), (2, .int (zI (zM0 407 ((4 * x0) + 1)))), (0, .ref (ad 398)), (1, .int (zI x0))] (by decide) rfl dX12_does_144 (fun ls hl => ?_)
      refine z_goto C0 (tgt := 227) dX12_does_146 (by decide) ?_
      have hkk9 : kk = 1 := by rw [zkc_iv hkk.1 hkk.2, t24]; rfl
      have hD : (zdC kk (zM0 407 (4 * x0 + 1)) (zM0 407 (4 * x0 + 2)) (zM0 407 (4 * x0 + 3)) (zM0 399)) = zdAT (zM0 407 (4 * x0 + 1)) (zM0 407 (4 * x0 + 2)) (zM0 407 (4 * x0 + 3)) (zM0 399) := by rw [hkk9]; rfl
      exact z_vret C0 Wd hret hlk ⟨⟨zM0 404, Or.inr ⟨by rw [hD]; exact hr25_1_0, by rw [hD]; exact zrow_404⟩⟩, rfl⟩ dX12_does_227
  refine z_ite (fun t27 => ?_) (fun t27 => ?_)
  · skip
    refine z_aload_n C0 hl 3 rfl dX12_does_159 ?_
    refine z_iload_n C0 hl 2 rfl dX12_does_160 ?_
    refine z_aload_n C0 hl 3 rfl dX12_does_161 ?_
    refine zg_9_17 C0 Wd zN398 zK398 zk_1629 dX12_does_162 ?_
    refine z_iconst C0 dX12_does_165 ?_
    refine z_iload_n C0 hl 4 rfl dX12_does_166 ?_
    refine z_imul C0 dX12_does_167 ?_
    refine z_iald C0 Wd zN407 zK407 zL407 (by omega) (by omega) (by decide) dX12_does_168 ?_
    obtain ⟨he29, hz28⟩ : (zM0 407 (4 * x0)) = (zkc kk) ∧ zR (zkc kk) := (fun q => ⟨q, q ▸ Wd.rm _ _⟩) hc
    refine z_top (congrArg zI he29) ?_
    clear he29
    refine z_bipush C0 dX12_does_169 (by decide) ?_
    refine z_icmp_ne C0 (tgt := 178) hz28 (zR_mk (by decide) (by decide)) dX12_does_171 (by decide) (fun c30 => ?_) (fun c30 => absurd c30 (by omega))
    refine z_iconst C0 dX12_does_178 ?_
    refine z_invVi (As := [.int (zI (zM0 407 ((4 * x0) + 1))), .int (zI 0)]) (rest := []) C0 Wd (ct_X12_doListen l g ad zM0 zF0 (zM0 407 ((4 * x0) + 1)) hz1 False (by omega)) kv_X12_doListen zN398 (zE_9 zK398) rfl zk_1813 rfl hl.1 rfl (Nat.le_of_ble_eq_true rfl) (by decide) (by decide) dX12_does_179 (fun r31 zMr31 zFr31 H locs hrr31 hp Wd => ?_)
    rcases hp with ⟨hr31_0_0, rfl, rfl, rfl⟩ | ⟨hr31_1_0, rfl, rfl, rfl⟩
    · skip
      refine z_istore C0 hl [(5, .int (zI 0)), (4, .int (zI (zM0 407 ((4 * x0) + 3)))), (3, .int (zI (zM0 407 ((4 * x0) + 2)))), (2, .int (zI (zM0 407 ((4 * x0) + 1)))), (0, .ref (ad 398)), (1, .int (zI x0))] (by decide) rfl dX12_does_182 (fun ls hl => ?_)
      refine z_goto C0 (tgt := 227) dX12_does_184 (by decide) ?_
      have hkk9 : kk = 5 := by rw [zkc_iv hkk.1 hkk.2, t27]; rfl
      have hD : (zdC kk (zM0 407 (4 * x0 + 1)) (zM0 407 (4 * x0 + 2)) (zM0 407 (4 * x0 + 3)) (zM0 399)) = zdLi (zM0 407 (4 * x0 + 1)) False (zM0 399) := by rw [hkk9]; rfl
      exact z_vret C0 Wd hret hlk ⟨⟨zM0 404, Or.inl ⟨by rw [hD]; exact hr31_0_0, by rw [hD]⟩⟩, rfl⟩ dX12_does_227
    · skip
      refine z_istore C0 hl [(5, .int (zI ((zdLi (zM0 407 ((4 * x0) + 1)) (False) (zM0 399)).2.1))), (4, .int (zI (zM0 407 ((4 * x0) + 3)))), (3, .int (zI (zM0 407 ((4 * x0) + 2)))), (2, .int (zI (zM0 407 ((4 * x0) + 1)))), (0, .ref (ad 398)), (1, .int (zI x0))] (by decide) rfl dX12_does_182 (fun ls hl => ?_)
      refine z_goto C0 (tgt := 227) dX12_does_184 (by decide) ?_
      have hkk9 : kk = 5 := by rw [zkc_iv hkk.1 hkk.2, t27]; rfl
      have hD : (zdC kk (zM0 407 (4 * x0 + 1)) (zM0 407 (4 * x0 + 2)) (zM0 407 (4 * x0 + 3)) (zM0 399)) = zdLi (zM0 407 (4 * x0 + 1)) False (zM0 399) := by rw [hkk9]; rfl
      exact z_vret C0 Wd hret hlk ⟨⟨zM0 404, Or.inr ⟨by rw [hD]; exact hr31_1_0, by rw [hD]; exact zrow_404⟩⟩, rfl⟩ dX12_does_227
  refine z_aload_n C0 hl 3 rfl dX12_does_221 ?_
  refine z_invVi (As := []) (rest := []) C0 Wd (ct_X12_doAddChamber l g ad zM0 zF0 (by omega)) kv_X12_doAddChamber zN398 (zE_9 zK398) rfl zk_1683 rfl hl.1 rfl (Nat.le_of_ble_eq_true rfl) (by decide) (by decide) dX12_does_222 (fun r33 zMr33 zFr33 H locs hrr33 hp Wd => ?_)
  rcases hp with ⟨hr33_0_0, rfl, rfl, rfl⟩ | ⟨hr33_1_0, rfl, rfl, rfl⟩
  · skip
    refine z_istore C0 hl [(5, .int (zI 0)), (4, .int (zI (zM0 407 ((4 * x0) + 3)))), (3, .int (zI (zM0 407 ((4 * x0) + 2)))), (2, .int (zI (zM0 407 ((4 * x0) + 1)))), (0, .ref (ad 398)), (1, .int (zI x0))] (by decide) rfl dX12_does_225 (fun ls hl => ?_)
    have hkk9 : kk = 0 := by
      have e9 : kk = 0 ∨ kk = 1 ∨ kk = 2 ∨ kk = 3 ∨ kk = 4 ∨ kk = 5 ∨ kk = 6 ∨ kk = 7 := by omega
      rcases e9 with e9 | e9 | e9 | e9 | e9 | e9 | e9 | e9
      · exact e9
      · exact absurd (by rw [e9]; rfl) t24
      · exact absurd (by rw [e9]; rfl) t9
      · exact absurd (by rw [e9]; rfl) t18
      · exact absurd (by rw [e9]; rfl) t12
      · exact absurd (by rw [e9]; rfl) t27
      · exact absurd (by rw [e9]; rfl) t6
      · exact absurd (by rw [e9]; rfl) t21
    have hD : (zdC kk (zM0 407 (4 * x0 + 1)) (zM0 407 (4 * x0 + 2)) (zM0 407 (4 * x0 + 3)) (zM0 399)) = zdAC (zM0 399) := by rw [hkk9]; rfl
    exact z_vret C0 Wd hret hlk ⟨⟨zM0 404, Or.inl ⟨by rw [hD]; exact hr33_0_0, by rw [hD]⟩⟩, rfl⟩ dX12_does_227
  · skip
    refine z_istore C0 hl [(5, .int (zI ((zdAC (zM0 399)).2.1))), (4, .int (zI (zM0 407 ((4 * x0) + 3)))), (3, .int (zI (zM0 407 ((4 * x0) + 2)))), (2, .int (zI (zM0 407 ((4 * x0) + 1)))), (0, .ref (ad 398)), (1, .int (zI x0))] (by decide) rfl dX12_does_225 (fun ls hl => ?_)
    have hkk9 : kk = 0 := by
      have e9 : kk = 0 ∨ kk = 1 ∨ kk = 2 ∨ kk = 3 ∨ kk = 4 ∨ kk = 5 ∨ kk = 6 ∨ kk = 7 := by omega
      rcases e9 with e9 | e9 | e9 | e9 | e9 | e9 | e9 | e9
      · exact e9
      · exact absurd (by rw [e9]; rfl) t24
      · exact absurd (by rw [e9]; rfl) t9
      · exact absurd (by rw [e9]; rfl) t18
      · exact absurd (by rw [e9]; rfl) t12
      · exact absurd (by rw [e9]; rfl) t27
      · exact absurd (by rw [e9]; rfl) t6
      · exact absurd (by rw [e9]; rfl) t21
    have hD : (zdC kk (zM0 407 (4 * x0 + 1)) (zM0 407 (4 * x0 + 2)) (zM0 407 (4 * x0 + 3)) (zM0 399)) = zdAC (zM0 399) := by rw [hkk9]; rfl
    exact z_vret C0 Wd hret hlk ⟨⟨zM0 404, Or.inr ⟨by rw [hD]; exact hr33_1_0, by rw [hD]; exact zrow_404⟩⟩, rfl⟩ dX12_does_227
