/-! codes and their bits -/
section ZOP
variable {g : zG} {A : Nat → Prop} {p : Program} {l : Launch} {e : Env} {R : Room} {s : State} {m : MethodId} {args : Array Value} {below : List Frame} {meth : Method} {c : Code} {H : Heap} {locs : List Loc} {cells slots : Nat} {Q : State → Prop}
variable {cc : ByteArray} {nL : Nat} {own : String} {pc : Nat} {N : zNs} {ls : Array Slot} {rest : List Value} {ad : Int → Nat} {M F : zMem}
theorem z_iushr (C0 : zC g A p s m args c cc nL own) {x y : Int32} {v : Int} (hv : (x.toUInt32 >>> (y.toUInt32 &&& Int32.toUInt32 31)).toInt32 = zI v) (hdg : decode cc pc = .ok (.iushr, 1)) (k : W p l e R s m args below meth c H locs cells slots Q (F0 m (pc + 1) ls (.int (zI v) :: rest))) : W p l e R s m args below meth c H locs cells slots Q (F0 m pc ls (.int y :: .int x :: rest)) := lv_iushr C0.1.1 C0.1.2.1 hdg hv k
theorem z_ldcw (C0 : zC g A p s m args c cc nL own) {n : Int32} {v : Int} {index : Nat} (hconst : Cond.constant own index n ∈ zT) (hv : n = zI v) (hdg : decode cc pc = .ok (.ldc_w index, 3)) (k : W p l e R s m args below meth c H locs cells slots Q (F0 m (pc + 3) ls (.int (zI v) :: rest))) : W p l e R s m args below meth c H locs cells slots Q (F0 m pc ls rest) := lv_ldcw C0.1.1 C0.1.2.1 C0.1.2.2.2.1 (C0.1.2.2.2.2 _ hconst) hdg (by rw [hv]; exact k)
end ZOP
def zus (x k : Int) : Int := ((zI x).toUInt32 >>> ((zI k).toUInt32 &&& Int32.toUInt32 31)).toInt32.toInt
def zan (x k : Int) : Int := (zI x &&& zI k).toInt
def zpc (x : Int) : Int := x % 2 + x / 2 % 2 + x / 4 % 2 + x / 8 % 2 + x / 16 % 2
def zcd (n : Int) : Int := n * 2 + zpc n % 2
def zb1 (x : Int) : Int := x - zan (zus x 1) 1431655765
def zb2 (x : Int) : Int := zan x 858993459 + zan (zus x 2) 858993459
def zb3 (x : Int) : Int := zan (x + zus x 4) 252645135
def zb4 (x : Int) : Int := x + zus x 8
def zb5 (x : Int) : Int := x + zus x 16
theorem zbc_dec : ∀ n : Fin 32, zI (zan (zb5 (zb4 (zb3 (zb2 (zb1 (n.val : Int)))))) 63) = zI (zpc (n.val : Int)) := by decide +kernel
theorem zbc_is {x : Int} (h0 : 0 ≤ x) (h1 : x < 32) : zI (zan (zb5 (zb4 (zb3 (zb2 (zb1 x))))) 63) = zI (zpc x) := by
  obtain ⟨n, rfl⟩ : ∃ k : Nat, x = k := ⟨x.toNat, by omega⟩
  exact zbc_dec ⟨n, by omega⟩
theorem zcd_dec : ∀ n : Fin 16, Int32.ofInt ((n.val : Int) * 2) ||| Int32.ofInt (zpc (n.val : Int) % 2) = Int32.ofInt (zcd (n.val : Int)) := by decide +kernel
theorem zcd_is {x : Int} (h0 : 0 ≤ x) (h1 : x < 16) : zI (x * 2) ||| zI (zpc x % 2) = zI (zcd x) := by
  obtain ⟨n, rfl⟩ : ∃ k : Nat, x = k := ⟨x.toNat, by omega⟩
  exact zcd_dec ⟨n, by omega⟩
theorem zpc_bd (x : Int) : 0 ≤ zpc x ∧ zpc x ≤ 5 := by unfold zpc; omega
theorem zcd_bd {x : Int} (h0 : 0 ≤ x) (h1 : x < 16) : 0 ≤ zcd x ∧ zcd x < 32 := by have := zpc_bd x; unfold zcd; omega
theorem zbt_dec : ∀ n : Fin 16, ∀ b : Fin 5, zcd (n.val : Int) / 2 ^ (4 - (b.val : Int)).toNat % 2 = zbt (n.val : Int) (b.val : Int) := by decide +kernel
theorem zbt_is {n b : Int} (h0 : 0 ≤ n ∧ n < 16) (h1 : 0 ≤ b ∧ b < 5) : zcd n / 2 ^ (4 - b).toNat % 2 = zbt n b := by
  obtain ⟨k, rfl⟩ : ∃ k : Nat, n = k := ⟨n.toNat, by omega⟩
  obtain ⟨q, rfl⟩ : ∃ k : Nat, b = k := ⟨b.toNat, by omega⟩
  exact zbt_dec ⟨k, by omega⟩ ⟨q, by omega⟩
theorem znm_dec : ∀ n : Fin 16, zpc (zcd (n.val : Int)) % 2 = 0 ∧ zcd (n.val : Int) / 2 = (n.val : Int) := by decide +kernel
theorem znm_is {n : Int} (h0 : 0 ≤ n ∧ n < 16) : zpc (zcd n) % 2 = 0 ∧ zcd n / 2 = n := by
  obtain ⟨k, rfl⟩ : ∃ k : Nat, n = k := ⟨n.toNat, by omega⟩
  exact znm_dec ⟨k, by omega⟩
theorem zde_dec : ∀ n : Fin 32, (zpc (n.val : Int) % 2 = 0) = (zbt ((n.val : Int) / 2) 4 = (n.val : Int) % 2) := by decide +kernel
theorem zde_is {n : Int} (h0 : 0 ≤ n ∧ n < 32) : zpc n % 2 = 0 ↔ zbt (n / 2) 4 = n % 2 := by
  obtain ⟨k, rfl⟩ : ∃ k : Nat, n = k := ⟨n.toNat, by omega⟩
  exact iff_of_eq (zde_dec ⟨k, by omega⟩)
theorem zI_shl2 {x : Int} (h0 : 0 ≤ x) (h1 : x < 1000000) : zI x <<< (zI 1 &&& 31) = zI (x * 2) := by
  have e : x * 2 ^ (1 : Int).toNat = x * 2 := rfl
  have h := zI_shl (x := x) (k := 1) h0 (by decide) (by decide) (by rw [e]; omega)
  rw [e] at h
  exact h
theorem zSm_bd {f : Int → Int} (h : ∀ k, 0 ≤ f k ∧ f k ≤ 8) : ∀ n : Nat, 0 ≤ zSm f n ∧ zSm f n ≤ 8 * n
  | 0 => ⟨Int.le_refl 0, Int.le_refl 0⟩
  | n + 1 => by
    have ih := zSm_bd h n
    have h1 := h n
    show 0 ≤ zSm f n + f n ∧ zSm f n + f n ≤ 8 * ((n + 1 : Nat) : Int)
    omega
theorem zSm_b1 {f : Int → Int} (h : ∀ k, 0 ≤ f k ∧ f k ≤ 1) : ∀ n : Nat, 0 ≤ zSm f n ∧ zSm f n ≤ n
  | 0 => ⟨Int.le_refl 0, Int.le_refl 0⟩
  | n + 1 => by
    have ih := zSm_b1 h n
    have h1 := h n
    show 0 ≤ zSm f n + f n ∧ zSm f n + f n ≤ ((n + 1 : Nat) : Int)
    omega
theorem zSm_bn {f : Int → Int} : ∀ n : Nat, (∀ k : Int, 0 ≤ k → k < n → 0 ≤ f k ∧ f k ≤ 8) → 0 ≤ zSm f n ∧ zSm f n ≤ 8 * n
  | 0, _ => ⟨Int.le_refl 0, Int.le_refl 0⟩
  | n + 1, h => by
    have ih := zSm_bn n (fun k h0 h1 => h k h0 (by omega))
    have h1 := h n (by omega) (by omega)
    show 0 ≤ zSm f n + f n ∧ zSm f n + f n ≤ 8 * ((n + 1 : Nat) : Int)
    omega
theorem zTu_bd (V : Int → Int) : 0 ≤ zTu V ∧ zTu V ≤ 64 := by
  rw [zTu_s]
  refine zSm_bn 8 (fun k h0 h1 => ?_)
  have := zSm_b1 (f := fun b => zb (0 < V (8 + 8 * k + b))) (fun q => by have := zb_01 (0 < V (8 + 8 * k + q)); omega) k.toNat
  omega
