/-! the model: floats -/
theorem kv_Jxf58ca_isNaN_12338 : zKS yJxf58ca_isNaN_12338 cJxf58ca_isNaN_12338 1 (some .boolean) 1 := ⟨zk_851, zk_850, zk_54, by decide, by decide, by decide +kernel⟩
set_option maxHeartbeats 4000000 in
set_option maxRecDepth 100000 in
theorem ct_Jxf58ca_isNaN_12338 (l : Launch) (g : zG) (N : zNs) (zb6 : zIn N 396) (zb7 : zIn N 397) (ad : Int → Nat) (zM0 zF0 : zMem) (x0 : UInt32) (hx : zf32 x0) : zMt l yJxf58ca_isNaN_12338 cJxf58ca_isNaN_12338 1 (some .boolean) 0 0 0 g N ad [.float x0] zM0 zF0 (zPi (fun r M' F' => 0 = r ∧ zM0 = M' ∧ zF0 = F')) := by
  refine zMt.ofF "java/lang/Float" rfl (by decide +kernel) (Nat.le_of_ble_eq_true rfl) (fun {p e s m args below meth c ls} C0 Wd hl hret hlk hin => ?_)
  have hl : lv_has ls 1 [(0, .float x0)] := hl
  refine z_fload_n C0 hl 0 rfl dJxf58ca_isNaN_12338_0 ?_
  refine z_fload_n C0 hl 0 rfl dJxf58ca_isNaN_12338_1 ?_
  refine z_fcmp C0 (v := 0) (zf_cmpv hx) dJxf58ca_isNaN_12338_2 ?_
  refine z_if_eq C0 (tgt := 10) (zR_mk (by decide) (by decide)) dJxf58ca_isNaN_12338_3 (by decide) (fun _ => ?_) (fun h => absurd h (by decide))
  refine z_iconst C0 dJxf58ca_isNaN_12338_10 ?_
  exact z_zret C0 Wd hret hlk (by decide) ⟨by first | rfl | (simp only [zb]; first | rfl | (split <;> omega) | omega) | (simp [zb, *]; done) | omega, by first | rfl | (simp [zb, *]; done), rfl⟩ dJxf58ca_isNaN_12338_11
theorem kv_Jxf58ca_floatToIntBits_5c35a : zKS yJxf58ca_floatToIntBits_5c35a cJxf58ca_floatToIntBits_5c35a 1 (some .int) 1 := ⟨zk_848, zk_847, zk_54, by decide, by decide, by decide +kernel⟩
set_option maxHeartbeats 4000000 in
set_option maxRecDepth 100000 in
theorem ct_Jxf58ca_floatToIntBits_5c35a (l : Launch) (g : zG) (N : zNs) (zb6 : zIn N 396) (zb7 : zIn N 397) (ad : Int → Nat) (zM0 zF0 : zMem) (x0 : UInt32) (hx : zf32 x0) : zMt l yJxf58ca_floatToIntBits_5c35a cJxf58ca_floatToIntBits_5c35a 1 (some .int) 1 0 0 g N ad [.float x0] zM0 zF0 (zPi (fun r M' F' => x0.toInt32.toInt = r ∧ zM0 = M' ∧ zF0 = F')) := by
  refine zMt.ofF "java/lang/Float" rfl (by decide +kernel) (Nat.le_of_ble_eq_true rfl) (fun {p e s m args below meth c ls} C0 Wd hl hret hlk hin => ?_)
  have hl : lv_has ls 1 [(0, .float x0)] := hl
  refine z_fload_n C0 hl 0 rfl dJxf58ca_floatToIntBits_5c35a_0 ?_
  refine z_invSi (As := [.float x0]) (rest := []) C0 Wd (ct_Jxf58ca_isNaN_12338 l g N zb6 zb7 ad zM0 zF0 x0 hx) kv_Jxf58ca_isNaN_12338 zk_849 rfl hl.1 rfl (Nat.le_of_ble_eq_true rfl) (by decide) (by decide) dJxf58ca_floatToIntBits_5c35a_1 (fun r1 zMr1 zFr1 H locs hrr1 hp Wd => ?_)
  obtain ⟨rfl, rfl, rfl⟩ := hp
  refine z_if_ne C0 (tgt := 12) (zR_mk (by decide) (by decide)) dJxf58ca_floatToIntBits_5c35a_4 (by decide) (fun h => absurd h (by decide)) (fun _ => ?_)
  refine z_fload_n C0 hl 0 rfl dJxf58ca_floatToIntBits_5c35a_7 ?_
  refine z_fraw C0 hl.1 (v := x0.toInt32.toInt) (zI_of _).symm (by decide) zk_852 zk_854 zk_853 zk_54 dJxf58ca_floatToIntBits_5c35a_8 ?_
  exact z_iret C0 Wd hret hlk (zR_of _) ⟨by first | rfl | (simp only [zb]; first | rfl | (split <;> omega) | omega) | (simp [zb, *]; done) | omega, by first | rfl | (simp [zb, *]; done), rfl⟩ dJxf58ca_floatToIntBits_5c35a_11
