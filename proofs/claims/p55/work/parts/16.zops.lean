/-! masks, shifts, digits: whole numbers behind them -/
theorem zI_bv {x : Int} (h : zR x) : (zI x).toBitVec.toNat = (x % 4294967296).toNat := by
  have h1 : (zI x).toBitVec = BitVec.ofInt 32 x := rfl
  rw [h1, BitVec.toNat_ofInt]
  rfl
theorem zI_and {x : Int} (hx : zR x) {mk : Int32} {p : Nat} (k : Nat) (hm : mk.toBitVec.toNat = 2 ^ k - 1) (hp : 2 ^ k = p) (hk : p ∣ 4294967296) : zI x &&& mk = zI (x % (p : Int)) := by
  rw [pk_and (zI x) k hm, zI_bv hx, hp, ← zI_nI]
  congr 1
  have h0 : 0 ≤ x % 4294967296 := Int.emod_nonneg _ (by decide)
  obtain ⟨q, hq⟩ := hk
  have h1 : (((x % 4294967296).toNat % p : Nat) : Int) = (x % 4294967296) % (p : Int) := by
    have h3 : (((x % 4294967296).toNat % p : Nat) : Int) = ((x % 4294967296).toNat : Int) % (p : Int) := rfl
    rw [h3, Int.toNat_of_nonneg h0]
  rw [h1]
  have h2 : (4294967296 : Int) = (p : Int) * (q : Int) := (congrArg (fun z : Nat => (z : Int)) hq).trans (Int.natCast_mul p q)
  rw [h2]
  exact Int.emod_emod_of_dvd x ⟨(q : Int), rfl⟩
theorem zI_and1 {x : Int} (hx : zR x) : zI x &&& zI 1 = zI (x % 2) := zI_and hx 1 rfl rfl ⟨2147483648, rfl⟩
theorem zI_and127 {x : Int} (hx : zR x) : zI x &&& zI 127 = zI (x % 128) := zI_and hx 7 rfl rfl ⟨33554432, rfl⟩
theorem zI_and63 {x : Int} (hx : zR x) : zI x &&& zI 63 = zI (x % 64) := zI_and hx 6 rfl rfl ⟨67108864, rfl⟩
theorem zI_sh : ∀ k, k < 32 → ((nI k &&& 31).toBitVec.smod 32).toNat = k := by decide +kernel
theorem zI_shr {x k : Int} (h0 : 0 ≤ x) (h1 : x < 2147483648) (k0 : 0 ≤ k) (k1 : k < 32) : zI x >>> (zI k &&& 31) = zI (x / 2 ^ k.toNat) := by
  obtain ⟨n, rfl⟩ : ∃ n : Nat, x = n := ⟨x.toNat, by omega⟩
  obtain ⟨j, rfl⟩ : ∃ j : Nat, k = j := ⟨k.toNat, by omega⟩
  rw [zI_nI, zI_nI, pk_shrN (by omega) _ j (zI_sh j (by omega)), ← zI_nI]
  congr 1
theorem zI_shl {x k : Int} (h0 : 0 ≤ x) (k0 : 0 ≤ k) (k1 : k < 32) (h1 : x * 2 ^ k.toNat < 2147483648) : zI x <<< (zI k &&& 31) = zI (x * 2 ^ k.toNat) := by
  obtain ⟨n, rfl⟩ : ∃ n : Nat, x = n := ⟨x.toNat, by omega⟩
  obtain ⟨j, rfl⟩ : ∃ j : Nat, k = j := ⟨k.toNat, by omega⟩
  have e : ((n : Int) * 2 ^ (j : Int).toNat) = ((n * 2 ^ j : Nat) : Int) := by
    rw [Int.toNat_natCast, Int.natCast_mul, Int.natCast_pow]
    rfl
  rw [e] at h1 ⊢
  rw [zI_nI, zI_nI, pk_shlN _ j (zI_sh j (by omega)) (by omega), ← zI_nI]
theorem zI_nz {x : Int} (h0 : 0 < x) (h1 : x < 2147483648) : ¬ zI x = 0 := by
  intro h
  have := (zI_eq (a := x) (b := 0) ⟨by omega, by omega⟩ ⟨by decide, by decide⟩).mp h
  omega
theorem zI_div {x y : Int} (h0 : 0 ≤ x) (h1 : x < 2147483648) (y0 : 0 < y) (y1 : y < 2147483648) : zI x / zI y = zI (x / y) := by
  obtain ⟨n, rfl⟩ : ∃ n : Nat, x = n := ⟨x.toNat, by omega⟩
  obtain ⟨j, rfl⟩ : ∃ j : Nat, y = j := ⟨y.toNat, by omega⟩
  rw [zI_nI, zI_nI, pk_div (by omega) (by omega) (by omega), ← zI_nI]
  congr 1
theorem zI_rem {x y : Int} (h0 : 0 ≤ x) (h1 : x < 2147483648) (y0 : 0 < y) (y1 : y < 2147483648) : zI x - zI x / zI y * zI y = zI (x % y) := by
  obtain ⟨n, rfl⟩ : ∃ n : Nat, x = n := ⟨x.toNat, by omega⟩
  obtain ⟨j, rfl⟩ : ∃ j : Nat, y = j := ⟨y.toNat, by omega⟩
  rw [zI_nI, zI_nI, pk_rem (by omega) (by omega) (by omega), ← zI_nI]
  congr 1
section ZO
variable {g : zG} {A : Nat → Prop} {p : Program} {l : Launch} {e : Env} {R : Room} {s : State} {m : MethodId} {args : Array Value} {below : List Frame} {meth : Method} {c : Code} {H : Heap} {locs : List Loc} {cells slots : Nat} {Q : State → Prop}
variable {cc : ByteArray} {nL : Nat} {own : String} {pc : Nat} {N : zNs} {ls : Array Slot} {rest : List Value} {ad : Int → Nat} {M F : zMem}
theorem z_idiv (C0 : zC g A p s m args c cc nL own) {x y v : Int} (hv : (0 ≤ x ∧ x < 2147483648) ∧ (0 < y ∧ y < 2147483648) ∧ x / y = v) (hdg : decode cc pc = .ok (.idiv, 1)) (k : W p l e R s m args below meth c H locs cells slots Q (F0 m (pc + 1) ls (.int (zI v) :: rest))) : W p l e R s m args below meth c H locs cells slots Q (F0 m pc ls (.int (zI y) :: .int (zI x) :: rest)) := lv_idiv C0.1.1 C0.1.2.1 hdg (zI_nz hv.2.1.1 hv.2.1.2) (by rw [zI_div hv.1.1 hv.1.2 hv.2.1.1 hv.2.1.2, hv.2.2]; exact k)
theorem z_irem (C0 : zC g A p s m args c cc nL own) {x y v : Int} (hv : (0 ≤ x ∧ x < 2147483648) ∧ (0 < y ∧ y < 2147483648) ∧ x % y = v) (hdg : decode cc pc = .ok (.irem, 1)) (k : W p l e R s m args below meth c H locs cells slots Q (F0 m (pc + 1) ls (.int (zI v) :: rest))) : W p l e R s m args below meth c H locs cells slots Q (F0 m pc ls (.int (zI y) :: .int (zI x) :: rest)) := lv_irem C0.1.1 C0.1.2.1 hdg (zI_nz hv.2.1.1 hv.2.1.2) (by rw [zI_rem hv.1.1 hv.1.2 hv.2.1.1 hv.2.1.2, hv.2.2]; exact k)
end ZO
theorem zR_dv {x : Int} {k : Nat} (h0 : 0 ≤ x) (h1 : x < 2147483648) : zR (x / 2 ^ k) := by
  obtain ⟨n, rfl⟩ : ∃ n : Nat, x = n := ⟨x.toNat, by omega⟩
  have e : ((n : Int) / 2 ^ k) = ((n / 2 ^ k : Nat) : Int) := by
    rw [Int.natCast_ediv, Int.natCast_pow]
    rfl
  have hz := Nat.div_le_self n (2 ^ k)
  rw [e]
  generalize n / 2 ^ k = z at hz ⊢
  exact ⟨by omega, by omega⟩
theorem zI_shrL {x k q : Int} (h0 : 0 ≤ x) (h1 : x < 2147483648) (k0 : 0 ≤ k) (k1 : k < 32) (hq : (2 : Int) ^ k.toNat = q) : zI x >>> (zI k &&& 31) = zI (x / q) := by
  rw [zI_shr h0 h1 k0 k1, hq]
