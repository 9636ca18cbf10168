theorem ti1397 : Cond.methodLink RX11 1 Lib.objectInit ∈ tb := tc6 (i := 77) (by decide +kernel) rfl
theorem ti257 : Cond.classLink RX10 46 RX2 ∈ tb := tc1 (i := 137) (by decide +kernel) rfl
theorem ti155 : Cond.classLink RX10 9 RX7 ∈ tb := tc1 (i := 35) (by decide +kernel) rfl
theorem ti152 : Cond.methodLink RX10 1 Lib.objectInit ∈ tb := tc1 (i := 32) (by decide +kernel) rfl
theorem ti243 : Cond.methodLink RX3 3 Lib.objectInit ∈ tb := tc1 (i := 123) (by decide +kernel) rfl
theorem ti211 : Cond.methodLink RX8 3 Lib.objectInit ∈ tb := tc1 (i := 91) (by decide +kernel) rfl
theorem ti192 : Cond.methodLink RX1 3 Lib.objectInit ∈ tb := tc1 (i := 72) (by decide +kernel) rfl
theorem ti161 : Cond.methodLink RX7 3 Lib.objectInit ∈ tb := tc1 (i := 41) (by decide +kernel) rfl
theorem ti267 : Cond.methodLink RX2 1 Lib.objectInit ∈ tb := tc1 (i := 147) (by decide +kernel) rfl
set_option maxRecDepth 20000 in
theorem ti154 : Cond.code Lib.objectInit ⟨#[0xb1]⟩ 1 none ∈ tb := tc1 (i := 34) rfl rfl
theorem ti153 : Cond.instanceMethod Lib.objectInit ∈ tb := tc1 (i := 33) (by decide +kernel) rfl
def isN (h : aH) (n : Nat) : Option Value → aH → Nat → Prop := fun r h2 n2 => r = none ∧ h = h2 ∧ n = n2
abbrev zI (N : Nat) : Option ao := some (.inl (.int, N, .inl (fun _ => 0)))
abbrev zB (N : Nat) : Option ao := some (.inl (.byte, N, .inl (fun _ => 0)))
set_option maxRecDepth 100000 in
theorem iX2 (h : aH) (n q : Nat) : AM mX2_init 1 [.ref q] h n 0 0 0 0 (isN h n) noX := by
  refine aw_of (by decide +kernel) rfl (Nat.le_of_ble_eq_true rfl) ?_
  refine aw_aload_n dX2_init_0 rfl ?_
  refine aw_obj dX2_init_1 ti267 ti153 ti154 (by decide) (Nat.le_of_ble_eq_true rfl) ?_
  exact aw_vret dX2_init_4 rfl (Nat.le_of_ble_eq_true rfl) (Nat.le_of_ble_eq_true rfl) (Nat.le_of_ble_eq_true rfl) (Nat.le_of_ble_eq_true rfl) ⟨rfl, rfl, rfl⟩
set_option maxRecDepth 100000 in
theorem iX7 (h : aH) (n q : Nat) (hq : h q = some (.inr (6, [.null, .int 0, .int 0]))) (hn : q ≠ n) : AM mX7_init 1 [.ref q] h n 1 4096 1 4096 (fun r h2 n2 => r = none ∧ h2 = va_up (va_up h n (zI 4096)) q (some (.inr (6, [.ref n, .int 0, .int 0]))) ∧ n2 = n + 1) noX := by
  refine aw_of (by decide +kernel) rfl (Nat.le_of_ble_eq_true rfl) ?_
  refine aw_aload_n dX7_init_0 rfl ?_
  refine aw_obj dX7_init_1 ti161 ti153 ti154 (by decide) (Nat.le_of_ble_eq_true rfl) ?_
  refine aw_aload_n dX7_init_4 rfl ?_
  refine aw_sipush (v := 4096) dX7_init_5 (by decide) ?_
  refine aw_newaI (N := 4096) dX7_init_8 ka_int (by decide) (by decide) (by decide) (Nat.le_of_ble_eq_true rfl) (Nat.le_of_ble_eq_true rfl) ?_
  refine aw_putF dX7_init_10 ptX7_9_6 rfl ((va_up_ne _ _ hn).trans hq) (Nat.le_of_ble_eq_true rfl) (fun _ => ⟨rfl, rfl⟩) ?_
  exact aw_vret dX7_init_13 rfl (Nat.le_of_ble_eq_true rfl) (Nat.le_of_ble_eq_true rfl) (Nat.le_of_ble_eq_true rfl) (Nat.le_of_ble_eq_true rfl) ⟨rfl, rfl, rfl⟩
set_option maxRecDepth 100000 in
theorem iX1 (h : aH) (n q : Nat) (hq : h q = some (.inr (1, [.null, .int 0]))) (hn : q ≠ n) : AM mX1_init 1 [.ref q] h n 1 65536 1 65536 (fun r h2 n2 => r = none ∧ h2 = va_up (va_up h n (zB 65536)) q (some (.inr (1, [.ref n, .int 0]))) ∧ n2 = n + 1) noX := by
  refine aw_of (by decide +kernel) rfl (Nat.le_of_ble_eq_true rfl) ?_
  refine aw_aload_n dX1_init_0 rfl ?_
  refine aw_obj dX1_init_1 ti192 ti153 ti154 (by decide) (Nat.le_of_ble_eq_true rfl) ?_
  refine aw_aload_n dX1_init_4 rfl ?_
  refine aw_ldc dX1_init_5 kcX1_9 ?_
  refine aw_newaB (N := 65536) dX1_init_7 ka_byte (by decide) (by decide) (by decide) (Nat.le_of_ble_eq_true rfl) (Nat.le_of_ble_eq_true rfl) ?_
  refine aw_putF dX1_init_9 ptX1_10_1 rfl ((va_up_ne _ _ hn).trans hq) (Nat.le_of_ble_eq_true rfl) (fun _ => ⟨rfl, rfl⟩) ?_
  exact aw_vret dX1_init_12 rfl (Nat.le_of_ble_eq_true rfl) (Nat.le_of_ble_eq_true rfl) (Nat.le_of_ble_eq_true rfl) (Nat.le_of_ble_eq_true rfl) ⟨rfl, rfl, rfl⟩
set_option maxRecDepth 100000 in
theorem iX8 (h : aH) (n q f c : Nat) (hq : h q = some (.inr (7, [.null, .int 0, .int 0, .int 0, .int 0]))) (hf : h f = some (.inr (1, [.ref c, .int 0]))) : AM mX8_init 1 [.ref q, .ref f] h n 0 0 0 0 (fun r h2 n2 => r = none ∧ h2 = va_up h q (some (.inr (7, [.ref c, .int 0, .int 0, .int 0, .int 0]))) ∧ n2 = n) noX := by
  refine aw_of (by decide +kernel) rfl (Nat.le_of_ble_eq_true rfl) ?_
  refine aw_aload_n dX8_init_0 rfl ?_
  refine aw_obj dX8_init_1 ti211 ti153 ti154 (by decide) (Nat.le_of_ble_eq_true rfl) ?_
  refine aw_aload_n dX8_init_4 rfl ?_
  refine aw_aload_n dX8_init_5 rfl ?_
  refine aw_getf (v := .ref c) dX8_init_6 flX8_9_1 hf rfl ?_
  refine aw_putf dX8_init_9 ptX8_15_7 hq (Nat.le_of_ble_eq_true rfl) (fun _ => ⟨rfl, rfl⟩) ?_
  exact aw_vret dX8_init_12 rfl (Nat.le_of_ble_eq_true rfl) (Nat.le_of_ble_eq_true rfl) (Nat.le_of_ble_eq_true rfl) (Nat.le_of_ble_eq_true rfl) ⟨rfl, rfl, rfl⟩
set_option maxRecDepth 100000 in
theorem iX3 (h : aH) (n q : Nat) (hq : h q = some (.inr (2, [.null, .null, .int 0]))) (hn : q < n) : AM mX3_init 1 [.ref q] h n 2 12288 2 12288 (fun r h2 n2 => r = none ∧ h2 = va_up (va_up (va_up (va_up h n (zI 4096)) q (some (.inr (2, [.ref n, .null, .int 0])))) (n + 1) (zI 8192)) q (some (.inr (2, [.ref n, .ref (n + 1), .int 0]))) ∧ n2 = n + 2) noX := by
  refine aw_of (by decide +kernel) rfl (Nat.le_of_ble_eq_true rfl) ?_
  refine aw_aload_n dX3_init_0 rfl ?_
  refine aw_obj dX3_init_1 ti243 ti153 ti154 (by decide) (Nat.le_of_ble_eq_true rfl) ?_
  refine aw_aload_n dX3_init_4 rfl ?_
  refine aw_sipush (v := 4096) dX3_init_5 (by decide) ?_
  refine aw_newaI (N := 4096) dX3_init_8 ka_int (by decide) (by decide) (by decide) (Nat.le_of_ble_eq_true rfl) (Nat.le_of_ble_eq_true rfl) ?_
  refine aw_putF dX3_init_10 ptX3_9_2 rfl ((va_up_ne _ _ (by omega)).trans hq) (Nat.le_of_ble_eq_true rfl) (fun _ => ⟨rfl, rfl⟩) ?_
  refine aw_aload_n dX3_init_13 rfl ?_
  refine aw_sipush (v := 8192) dX3_init_14 (by decide) ?_
  refine aw_newaI (N := 8192) dX3_init_17 ka_int (by decide) (by decide) (by decide) (Nat.le_of_ble_eq_true rfl) (Nat.le_of_ble_eq_true rfl) ?_
  refine aw_putF dX3_init_19 ptX3_15_2 rfl ((va_up_ne _ _ (by omega)).trans (va_up_self _ _ _)) (Nat.le_of_ble_eq_true rfl) (fun _ => ⟨rfl, rfl⟩) ?_
  exact aw_vret dX3_init_22 rfl (Nat.le_of_ble_eq_true rfl) (Nat.le_of_ble_eq_true rfl) (Nat.le_of_ble_eq_true rfl) (Nat.le_of_ble_eq_true rfl) ⟨rfl, rfl, rfl⟩
set_option maxRecDepth 100000 in
theorem iX6 (h : aH) (n q : Nat) (hq : h q = some (.inr (5, [.int 0, .int 0, .int 0, .null, .int 0]))) (hn : q ≠ n) : AM mX6_init 2 [.ref q] h n 1 64 1 64 (fun r h2 n2 => r = none ∧ h2 = va_up (va_up h n (zI 64)) q (some (.inr (5, [.int 0, .int 0, .int 0, .ref n, .int 0]))) ∧ n2 = n + 1) noX := by
  refine aw_of (by decide +kernel) rfl (Nat.le_of_ble_eq_true rfl) ?_
  refine aw_aload_n dX6_init_0 rfl ?_
  refine aw_callIN dX6_init_1 ckX6_3 rfl (iX2 _ _ q) rfl (Nat.le_of_ble_eq_true rfl) (by decide) (by decide) (Nat.le_of_ble_eq_true rfl) (Nat.le_of_ble_eq_true rfl) (fun r1 h1 n1 hp1 => ?_)
  obtain ⟨rfl, rfl, rfl⟩ := hp1
  refine aw_aload_n dX6_init_4 rfl ?_
  refine aw_bipush (v := 64) dX6_init_5 (by decide) ?_
  refine aw_newaI (N := 64) dX6_init_7 ka_int (by decide) (by decide) (by decide) (Nat.le_of_ble_eq_true rfl) (Nat.le_of_ble_eq_true rfl) ?_
  refine aw_putF dX6_init_9 ptX6_9_5 rfl ((va_up_ne _ _ hn).trans hq) (Nat.le_of_ble_eq_true rfl) (fun _ => ⟨rfl, rfl⟩) ?_
  exact aw_vret dX6_init_12 rfl (Nat.le_of_ble_eq_true rfl) (Nat.le_of_ble_eq_true rfl) (Nat.le_of_ble_eq_true rfl) (Nat.le_of_ble_eq_true rfl) ⟨rfl, rfl, rfl⟩
set_option maxRecDepth 100000 in
theorem iX5 (h : aH) (n q : Nat) : AM mX5_init 2 [.ref q] h n 0 0 0 0 (isN h n) noX := by
  refine aw_of (by decide +kernel) rfl (Nat.le_of_ble_eq_true rfl) ?_
  refine aw_aload_n dX5_init_0 rfl ?_
  refine aw_callIN dX5_init_1 ckX5_3 rfl (iX2 _ _ q) rfl (Nat.le_of_ble_eq_true rfl) (by decide) (by decide) (Nat.le_of_ble_eq_true rfl) (Nat.le_of_ble_eq_true rfl) (fun r1 h1 n1 hp1 => ?_)
  obtain ⟨rfl, rfl, rfl⟩ := hp1
  exact aw_vret dX5_init_4 rfl (Nat.le_of_ble_eq_true rfl) (Nat.le_of_ble_eq_true rfl) (Nat.le_of_ble_eq_true rfl) (Nat.le_of_ble_eq_true rfl) ⟨rfl, rfl, rfl⟩
set_option maxRecDepth 100000 in
theorem iX0 (h : aH) (n q f : Nat) (hq : h q = some (.inr (0, [.int 0, .int 0, .int 0, .null, .null, .int 0, .int 0, .int 0, .int 0, .int 0, .int 0, .int 0]))) (hn : q ≠ n) : AM mX0_init 2 [.ref q, .ref f] h n 1 256 1 256 (fun r h2 n2 => r = none ∧ h2 = va_up (va_up (va_up h n (zI 256)) q (some (.inr (0, [.int 0, .int 0, .int 0, .null, .ref n, .int 0, .int 0, .int 0, .int 0, .int 0, .int 0, .int 0])))) q (some (.inr (0, [.int 0, .int 0, .int 0, .ref f, .ref n, .int 0, .int 0, .int 0, .int 0, .int 0, .int 0, .int 0]))) ∧ n2 = n + 1) noX := by
  refine aw_of (by decide +kernel) rfl (Nat.le_of_ble_eq_true rfl) ?_
  refine aw_aload_n dX0_init_0 rfl ?_
  refine aw_callIN dX0_init_1 ckX0_3 rfl (iX2 _ _ q) rfl (Nat.le_of_ble_eq_true rfl) (by decide) (by decide) (Nat.le_of_ble_eq_true rfl) (Nat.le_of_ble_eq_true rfl) (fun r1 h1 n1 hp1 => ?_)
  obtain ⟨rfl, rfl, rfl⟩ := hp1
  refine aw_aload_n dX0_init_4 rfl ?_
  refine aw_sipush (v := 256) dX0_init_5 (by decide) ?_
  refine aw_newaI (N := 256) dX0_init_8 ka_int (by decide) (by decide) (by decide) (Nat.le_of_ble_eq_true rfl) (Nat.le_of_ble_eq_true rfl) ?_
  refine aw_putF dX0_init_10 ptX0_9_0 rfl ((va_up_ne _ _ hn).trans hq) (Nat.le_of_ble_eq_true rfl) (fun _ => ⟨rfl, rfl⟩) ?_
  refine aw_aload_n dX0_init_13 rfl ?_
  refine aw_aload_n dX0_init_14 rfl ?_
  refine aw_putF dX0_init_15 ptX0_15_0 rfl (va_up_self _ _ _) (Nat.le_of_ble_eq_true rfl) (fun _ => ⟨rfl, rfl⟩) ?_
  exact aw_vret dX0_init_18 rfl (Nat.le_of_ble_eq_true rfl) (Nat.le_of_ble_eq_true rfl) (Nat.le_of_ble_eq_true rfl) (Nat.le_of_ble_eq_true rfl) ⟨rfl, rfl, rfl⟩
set_option maxRecDepth 100000 in
theorem iX9 (h : aH) (n q f : Nat) (hq : h q = some (.inr (8, [.int 0, .int 0, .int 0, .null, .null, .int 0, .int 0, .int 0, .int 0, .int 0, .int 0, .int 0, .int 0, .int 0, .int 0, .int 0, .int 0]))) (hn : q ≠ n) : AM mX9_init 2 [.ref q, .ref f] h n 1 256 1 256 (fun r h2 n2 => r = none ∧ h2 = va_up (va_up (va_up h n (zI 256)) q (some (.inr (8, [.int 0, .int 0, .int 0, .null, .ref n, .int 0, .int 0, .int 0, .int 0, .int 0, .int 0, .int 0, .int 0, .int 0, .int 0, .int 0, .int 0])))) q (some (.inr (8, [.int 0, .int 0, .int 0, .ref f, .ref n, .int 0, .int 0, .int 0, .int 0, .int 0, .int 0, .int 0, .int 0, .int 0, .int 0, .int 0, .int 0]))) ∧ n2 = n + 1) noX := by
  refine aw_of (by decide +kernel) rfl (Nat.le_of_ble_eq_true rfl) ?_
  refine aw_aload_n dX9_init_0 rfl ?_
  refine aw_callIN dX9_init_1 ckX9_3 rfl (iX2 _ _ q) rfl (Nat.le_of_ble_eq_true rfl) (by decide) (by decide) (Nat.le_of_ble_eq_true rfl) (Nat.le_of_ble_eq_true rfl) (fun r1 h1 n1 hp1 => ?_)
  obtain ⟨rfl, rfl, rfl⟩ := hp1
  refine aw_aload_n dX9_init_4 rfl ?_
  refine aw_sipush (v := 256) dX9_init_5 (by decide) ?_
  refine aw_newaI (N := 256) dX9_init_8 ka_int (by decide) (by decide) (by decide) (Nat.le_of_ble_eq_true rfl) (Nat.le_of_ble_eq_true rfl) ?_
  refine aw_putF dX9_init_10 ptX9_9_8 rfl ((va_up_ne _ _ hn).trans hq) (Nat.le_of_ble_eq_true rfl) (fun _ => ⟨rfl, rfl⟩) ?_
  refine aw_aload_n dX9_init_13 rfl ?_
  refine aw_aload_n dX9_init_14 rfl ?_
  refine aw_putF dX9_init_15 ptX9_15_8 rfl (va_up_self _ _ _) (Nat.le_of_ble_eq_true rfl) (fun _ => ⟨rfl, rfl⟩) ?_
  exact aw_vret dX9_init_18 rfl (Nat.le_of_ble_eq_true rfl) (Nat.le_of_ble_eq_true rfl) (Nat.le_of_ble_eq_true rfl) (Nat.le_of_ble_eq_true rfl) ⟨rfl, rfl, rfl⟩
set_option maxRecDepth 100000 in
theorem iX4 (h : aH) (n q f : Nat) (hq : h q = some (.inr (3, [.int 0, .int 0, .int 0, .null, .null, .int 0, .int 0, .int 0, .int 0, .int 0]))) (hn : q ≠ n) : AM mX4_init 2 [.ref q, .ref f] h n 1 256 1 256 (fun r h2 n2 => r = none ∧ h2 = va_up (va_up (va_up h n (zI 256)) q (some (.inr (3, [.int 0, .int 0, .int 0, .null, .ref n, .int 0, .int 0, .int 0, .int 0, .int 0])))) q (some (.inr (3, [.int 0, .int 0, .int 0, .ref f, .ref n, .int 0, .int 0, .int 0, .int 0, .int 0]))) ∧ n2 = n + 1) noX := by
  refine aw_of (by decide +kernel) rfl (Nat.le_of_ble_eq_true rfl) ?_
  refine aw_aload_n dX4_init_0 rfl ?_
  refine aw_callIN dX4_init_1 ckX4_3 rfl (iX2 _ _ q) rfl (Nat.le_of_ble_eq_true rfl) (by decide) (by decide) (Nat.le_of_ble_eq_true rfl) (Nat.le_of_ble_eq_true rfl) (fun r1 h1 n1 hp1 => ?_)
  obtain ⟨rfl, rfl, rfl⟩ := hp1
  refine aw_aload_n dX4_init_4 rfl ?_
  refine aw_sipush (v := 256) dX4_init_5 (by decide) ?_
  refine aw_newaI (N := 256) dX4_init_8 ka_int (by decide) (by decide) (by decide) (Nat.le_of_ble_eq_true rfl) (Nat.le_of_ble_eq_true rfl) ?_
  refine aw_putF dX4_init_10 ptX4_9_3 rfl ((va_up_ne _ _ hn).trans hq) (Nat.le_of_ble_eq_true rfl) (fun _ => ⟨rfl, rfl⟩) ?_
  refine aw_aload_n dX4_init_13 rfl ?_
  refine aw_aload_n dX4_init_14 rfl ?_
  refine aw_putF dX4_init_15 ptX4_15_3 rfl (va_up_self _ _ _) (Nat.le_of_ble_eq_true rfl) (fun _ => ⟨rfl, rfl⟩) ?_
  exact aw_vret dX4_init_18 rfl (Nat.le_of_ble_eq_true rfl) (Nat.le_of_ble_eq_true rfl) (Nat.le_of_ble_eq_true rfl) (Nat.le_of_ble_eq_true rfl) ⟨rfl, rfl, rfl⟩
def shI : Nat → Nat := fun i => if i = 0 then 2 else if i = 1 then 4 else if i = 2 then 6 else 8
def HC0 (h : aH) : aH := HC (10, -1) shI (fun _ => (0, 0, fun _ => 0)) (fun _ => (0, fun _ => 0)) 12 (0, 0, 0, 0) (0, fun _ => 0, fun _ => 0) (0, 0, 0, 0, fun _ => 0) (0, 0, 0, 0) (0, 0, 0, 0, 0, 0, 0, 0, 0, 0, fun _ => 0) (0, 0, 0, 0, 0, 0, 0, 0, 0, 0, 0, 0, 0, 0, 0, fun _ => 0) (0, 0, 0, 0, 0, 0, 0, 0, fun _ => 0) (fillN (fun _ => 0) 4 (-1)) h
theorem shI_ok : (va_up (va_up (va_up (va_up (fun _ => none) (Int32.toNatClampNeg 0) (some 2)) (Int32.toNatClampNeg 1) (some 4)) (Int32.toNatClampNeg 2) (some 6)) (Int32.toNatClampNeg 3) (some 8) : Nat → Option Nat) = (fun i => if i < 4 then some (shI i) else none) := by
  have z0 : Int32.toNatClampNeg 0 = 0 := by decide
  have z1 : Int32.toNatClampNeg 1 = 1 := by decide
  have z2 : Int32.toNatClampNeg 2 = 2 := by decide
  have z3 : Int32.toNatClampNeg 3 = 3 := by decide
  rw [z0, z1, z2, z3]
  funext i
  match i with
  | 0 => rfl
  | 1 => rfl
  | 2 => rfl
  | 3 => rfl
  | j + 4 =>
    rw [va_up_ne _ _ (by omega), va_up_ne _ _ (by omega), va_up_ne _ _ (by omega), va_up_ne _ _ (by omega), if_neg (by omega)]
theorem fmts_ok : (va_up (va_up (va_up (va_up (va_up (fun _ => none) (Int32.toNatClampNeg 0) (some 21)) (Int32.toNatClampNeg 1) (some 23)) (Int32.toNatClampNeg 2) (some 24)) (Int32.toNatClampNeg 3) (some 26)) (Int32.toNatClampNeg 4) (some 28) : Nat → Option Nat) = fmts := by
  have z0 : Int32.toNatClampNeg 0 = 0 := by decide
  have z1 : Int32.toNatClampNeg 1 = 1 := by decide
  have z2 : Int32.toNatClampNeg 2 = 2 := by decide
  have z3 : Int32.toNatClampNeg 3 = 3 := by decide
  have z4 : Int32.toNatClampNeg 4 = 4 := by decide
  rw [z0, z1, z2, z3, z4]
  funext i
  match i with
  | 0 => rfl
  | 1 => rfl
  | 2 => rfl
  | 3 => rfl
  | 4 => rfl
  | j + 5 =>
    rw [va_up_ne _ _ (by omega), va_up_ne _ _ (by omega), va_up_ne _ _ (by omega), va_up_ne _ _ (by omega), va_up_ne _ _ (by omega)]
    unfold fmts
    rw [if_neg (by omega), if_neg (by omega), if_neg (by omega), if_neg (by omega), if_neg (by omega)]
theorem HC_ge {m0 : Mnt} {sh : Nat → Nat} {rr : Nat → Ras} {ww : Nat → Row} {so : Nat} {sc : Src} {pl : Pal} {qo : Qoi} {pn : Pnm} {bm : Bmp} {tg : Tga} {px : Pcx} {fa : A} {hb : aH} {k : Nat} (hk : 31 ≤ k) : HC m0 sh rr ww so sc pl qo pn bm tg px fa hb k = hb k := by
  unfold HC
  rw [if_neg (by omega), if_neg (by show ¬ (k = 2 ∨ k = 4 ∨ k = 6 ∨ k = 8 ∨ k = 10); omega), if_neg (by omega), if_neg (by show ¬ (k = 12 ∨ k = 14); omega), if_neg (by omega), if_neg (by omega), if_neg (by omega), if_neg (by omega), if_neg (by omega), if_neg (by omega), if_neg (by omega), if_neg (by omega), if_neg (by omega), if_neg (by omega), if_neg (by omega), if_neg (by omega), if_neg (by omega), if_neg (by omega), if_neg (by omega), if_neg (by omega), if_neg (by omega)]
set_option maxHeartbeats 4000000 in
set_option maxRecDepth 100000 in
theorem iX10 (h0 : aH) : AM mX10_init 3 [.ref 0] (va_up h0 0 (some (.inr (9, [.null, .null, .null, .null, .null, .null, .null, .null, .int 0])))) 1 30 164760 30 164760 (fun r h2 n2 => r = none ∧ h2 = HC0 h0 ∧ n2 = 31) noX := by
  refine aw_of (by decide +kernel) rfl (Nat.le_of_ble_eq_true rfl) ?_
  refine aw_aload_n dX10_init_0 rfl ?_
  refine aw_obj dX10_init_1 ti152 ti153 ti154 (by decide) (Nat.le_of_ble_eq_true rfl) ?_
  refine aw_aload_n dX10_init_4 rfl ?_
  refine aw_iconst (v := 4) dX10_init_5 (by decide) ?_
  refine aw_newq (N := 4) (Cn := RX7) dX10_init_6 ti155 (tl1 (List.mem_of_getElem? (i := 36) (by decide +kernel))) (by decide) (by decide) (by decide) (Nat.le_of_ble_eq_true rfl) (Nat.le_of_ble_eq_true rfl) ?_
  refine aw_putF dX10_init_9 ptX10_11_9 rfl rfl (Nat.le_of_ble_eq_true rfl) (fun _ => ⟨rfl, rfl⟩) ?_
  refine aw_iconst (v := 0) dX10_init_12 (by decide) ?_
  refine aw_istore_n (lv2 := [(1, _), (0, _)]) dX10_init_13 (by decide) rfl ?_
  refine aw_iload_n dX10_init_14 rfl ?_
  refine aw_iconst (v := 4) dX10_init_15 (by decide) ?_
  refine aw_icmp_ge (tgt := 38) dX10_init_16 (by decide) (fun c => absurd c (by decide)) (fun _ => ?_)
  refine aw_aload_n dX10_init_19 rfl ?_
  refine aw_getf (v := .ref 1) dX10_init_20 flX10_11_9 rfl rfl ?_
  refine aw_iload_n dX10_init_23 rfl ?_
  refine aw_new dX10_init_24 knX10_9 (Nat.le_of_ble_eq_true rfl) (Nat.le_of_ble_eq_true rfl) ?_
  refine aw_dup dX10_init_27 rfl ?_
  refine aw_callIN dX10_init_28 ckX10_15 rfl (iX7 _ _ 2 rfl (by decide)) rfl (Nat.le_of_ble_eq_true rfl) (by decide) (by decide) (Nat.le_of_ble_eq_true rfl) (Nat.le_of_ble_eq_true rfl) (fun r28 h28 n28 hp28 => ?_)
  obtain ⟨rfl, rfl, rfl⟩ := hp28
  refine aw_aast (Cv := RX7) (Cn := RX7) dX10_init_31 rfl rfl ⟨_, _, rfl⟩ (Or.inl rfl) (vp_in_iff.mpr (by decide)) ?_
  refine aw_iinc (v := 1) (lv2 := [(1, _), (0, _)]) dX10_init_32 rfl (by decide) (by decide) rfl ?_
  refine aw_goto (tgt := 14) dX10_init_35 (by decide) ?_
  refine aw_iload_n dX10_init_14 rfl ?_
  refine aw_iconst (v := 4) dX10_init_15 (by decide) ?_
  refine aw_icmp_ge (tgt := 38) dX10_init_16 (by decide) (fun c => absurd c (by decide)) (fun _ => ?_)
  refine aw_aload_n dX10_init_19 rfl ?_
  refine aw_getf (v := .ref 1) dX10_init_20 flX10_11_9 rfl rfl ?_
  refine aw_iload_n dX10_init_23 rfl ?_
  refine aw_new dX10_init_24 knX10_9 (Nat.le_of_ble_eq_true rfl) (Nat.le_of_ble_eq_true rfl) ?_
  refine aw_dup dX10_init_27 rfl ?_
  refine aw_callIN dX10_init_28 ckX10_15 rfl (iX7 _ _ 4 rfl (by decide)) rfl (Nat.le_of_ble_eq_true rfl) (by decide) (by decide) (Nat.le_of_ble_eq_true rfl) (Nat.le_of_ble_eq_true rfl) (fun r28 h28 n28 hp28 => ?_)
  obtain ⟨rfl, rfl, rfl⟩ := hp28
  refine aw_aast (Cv := RX7) (Cn := RX7) dX10_init_31 rfl rfl ⟨_, _, rfl⟩ (Or.inl rfl) (vp_in_iff.mpr (by decide)) ?_
  refine aw_iinc (v := 2) (lv2 := [(1, _), (0, _)]) dX10_init_32 rfl (by decide) (by decide) rfl ?_
  refine aw_goto (tgt := 14) dX10_init_35 (by decide) ?_
  refine aw_iload_n dX10_init_14 rfl ?_
  refine aw_iconst (v := 4) dX10_init_15 (by decide) ?_
  refine aw_icmp_ge (tgt := 38) dX10_init_16 (by decide) (fun c => absurd c (by decide)) (fun _ => ?_)
  refine aw_aload_n dX10_init_19 rfl ?_
  refine aw_getf (v := .ref 1) dX10_init_20 flX10_11_9 rfl rfl ?_
  refine aw_iload_n dX10_init_23 rfl ?_
  refine aw_new dX10_init_24 knX10_9 (Nat.le_of_ble_eq_true rfl) (Nat.le_of_ble_eq_true rfl) ?_
  refine aw_dup dX10_init_27 rfl ?_
  refine aw_callIN dX10_init_28 ckX10_15 rfl (iX7 _ _ 6 rfl (by decide)) rfl (Nat.le_of_ble_eq_true rfl) (by decide) (by decide) (Nat.le_of_ble_eq_true rfl) (Nat.le_of_ble_eq_true rfl) (fun r28 h28 n28 hp28 => ?_)
  obtain ⟨rfl, rfl, rfl⟩ := hp28
  refine aw_aast (Cv := RX7) (Cn := RX7) dX10_init_31 rfl rfl ⟨_, _, rfl⟩ (Or.inl rfl) (vp_in_iff.mpr (by decide)) ?_
  refine aw_iinc (v := 3) (lv2 := [(1, _), (0, _)]) dX10_init_32 rfl (by decide) (by decide) rfl ?_
  refine aw_goto (tgt := 14) dX10_init_35 (by decide) ?_
  refine aw_iload_n dX10_init_14 rfl ?_
  refine aw_iconst (v := 4) dX10_init_15 (by decide) ?_
  refine aw_icmp_ge (tgt := 38) dX10_init_16 (by decide) (fun c => absurd c (by decide)) (fun _ => ?_)
  refine aw_aload_n dX10_init_19 rfl ?_
  refine aw_getf (v := .ref 1) dX10_init_20 flX10_11_9 rfl rfl ?_
  refine aw_iload_n dX10_init_23 rfl ?_
  refine aw_new dX10_init_24 knX10_9 (Nat.le_of_ble_eq_true rfl) (Nat.le_of_ble_eq_true rfl) ?_
  refine aw_dup dX10_init_27 rfl ?_
  refine aw_callIN dX10_init_28 ckX10_15 rfl (iX7 _ _ 8 rfl (by decide)) rfl (Nat.le_of_ble_eq_true rfl) (by decide) (by decide) (Nat.le_of_ble_eq_true rfl) (Nat.le_of_ble_eq_true rfl) (fun r28 h28 n28 hp28 => ?_)
  obtain ⟨rfl, rfl, rfl⟩ := hp28
  refine aw_aast (Cv := RX7) (Cn := RX7) dX10_init_31 rfl rfl ⟨_, _, rfl⟩ (Or.inl rfl) (vp_in_iff.mpr (by decide)) ?_
  refine aw_iinc (v := 4) (lv2 := [(1, _), (0, _)]) dX10_init_32 rfl (by decide) (by decide) rfl ?_
  refine aw_goto (tgt := 14) dX10_init_35 (by decide) ?_
  refine aw_iload_n dX10_init_14 rfl ?_
  refine aw_iconst (v := 4) dX10_init_15 (by decide) ?_
  refine aw_icmp_ge (tgt := 38) dX10_init_16 (by decide) (fun _ => ?_) (fun c => absurd (by decide) c)
  refine aw_aload_n dX10_init_38 rfl ?_
  refine aw_new dX10_init_39 knX10_9 (Nat.le_of_ble_eq_true rfl) (Nat.le_of_ble_eq_true rfl) ?_
  refine aw_dup dX10_init_42 rfl ?_
  refine aw_callIN dX10_init_43 ckX10_15 rfl (iX7 _ _ 10 rfl (by decide)) rfl (Nat.le_of_ble_eq_true rfl) (by decide) (by decide) (Nat.le_of_ble_eq_true rfl) (Nat.le_of_ble_eq_true rfl) (fun r43 h43 n43 hp43 => ?_)
  obtain ⟨rfl, rfl, rfl⟩ := hp43
  refine aw_putf dX10_init_46 ptX10_16_9 rfl (Nat.le_of_ble_eq_true rfl) (fun _ => ⟨rfl, rfl⟩) ?_
  refine aw_aload_n dX10_init_49 rfl ?_
  refine aw_new dX10_init_50 knX10_20 (Nat.le_of_ble_eq_true rfl) (Nat.le_of_ble_eq_true rfl) ?_
  refine aw_dup dX10_init_53 rfl ?_
  refine aw_callIN dX10_init_54 ckX10_22 rfl (iX1 _ _ 12 rfl (by decide)) rfl (Nat.le_of_ble_eq_true rfl) (by decide) (by decide) (Nat.le_of_ble_eq_true rfl) (Nat.le_of_ble_eq_true rfl) (fun r54 h54 n54 hp54 => ?_)
  obtain ⟨rfl, rfl, rfl⟩ := hp54
  refine aw_putF dX10_init_57 ptX10_23_9 rfl rfl (Nat.le_of_ble_eq_true rfl) (fun _ => ⟨rfl, rfl⟩) ?_
  refine aw_aload_n dX10_init_60 rfl ?_
  refine aw_new dX10_init_61 knX10_20 (Nat.le_of_ble_eq_true rfl) (Nat.le_of_ble_eq_true rfl) ?_
  refine aw_dup dX10_init_64 rfl ?_
  refine aw_callIN dX10_init_65 ckX10_22 rfl (iX1 _ _ 14 rfl (by decide)) rfl (Nat.le_of_ble_eq_true rfl) (by decide) (by decide) (Nat.le_of_ble_eq_true rfl) (Nat.le_of_ble_eq_true rfl) (fun r65 h65 n65 hp65 => ?_)
  obtain ⟨rfl, rfl, rfl⟩ := hp65
  refine aw_putF dX10_init_68 ptX10_27_9 rfl rfl (Nat.le_of_ble_eq_true rfl) (fun _ => ⟨rfl, rfl⟩) ?_
  refine aw_aload_n dX10_init_71 rfl ?_
  refine aw_new dX10_init_72 knX10_30 (Nat.le_of_ble_eq_true rfl) (Nat.le_of_ble_eq_true rfl) ?_
  refine aw_dup dX10_init_75 rfl ?_
  refine aw_aload_n dX10_init_76 rfl ?_
  refine aw_getf (v := .ref 12) dX10_init_77 flX10_23_9 rfl rfl ?_
  refine aw_callI dX10_init_80 ckX10_32 rfl (iX8 _ _ 16 12 13 rfl rfl) rfl (Nat.le_of_ble_eq_true rfl) (by decide) (by decide) (Nat.le_of_ble_eq_true rfl) (Nat.le_of_ble_eq_true rfl) (fun r80 h80 n80 hp80 => ?_)
  obtain ⟨rfl, rfl, rfl⟩ := hp80
  refine aw_putF dX10_init_83 ptX10_35_9 rfl rfl (Nat.le_of_ble_eq_true rfl) (fun _ => ⟨rfl, rfl⟩) ?_
  refine aw_aload_n dX10_init_86 rfl ?_
  refine aw_new dX10_init_87 knX10_39 (Nat.le_of_ble_eq_true rfl) (Nat.le_of_ble_eq_true rfl) ?_
  refine aw_dup dX10_init_90 rfl ?_
  refine aw_callIN dX10_init_91 ckX10_41 rfl (iX3 _ _ 17 rfl (by decide)) rfl (Nat.le_of_ble_eq_true rfl) (by decide) (by decide) (Nat.le_of_ble_eq_true rfl) (Nat.le_of_ble_eq_true rfl) (fun r91 h91 n91 hp91 => ?_)
  obtain ⟨rfl, rfl, rfl⟩ := hp91
  refine aw_putF dX10_init_94 ptX10_42_9 rfl rfl (Nat.le_of_ble_eq_true rfl) (fun _ => ⟨rfl, rfl⟩) ?_
  refine aw_aload_n dX10_init_97 rfl ?_
  refine aw_iconst (v := 5) dX10_init_98 (by decide) ?_
  refine aw_newq (N := 5) (Cn := RX2) dX10_init_99 ti257 (tl1 (List.mem_of_getElem? (i := 138) (by decide +kernel))) (by decide) (by decide) (by decide) (Nat.le_of_ble_eq_true rfl) (Nat.le_of_ble_eq_true rfl) ?_
  refine aw_putF dX10_init_102 ptX10_48_9 rfl rfl (Nat.le_of_ble_eq_true rfl) (fun _ => ⟨rfl, rfl⟩) ?_
  refine aw_aload_n dX10_init_105 rfl ?_
  refine aw_getf (v := .ref 20) dX10_init_106 flX10_48_9 rfl rfl ?_
  refine aw_iconst (v := 0) dX10_init_109 (by decide) ?_
  refine aw_new dX10_init_110 knX10_52 (Nat.le_of_ble_eq_true rfl) (Nat.le_of_ble_eq_true rfl) ?_
  refine aw_dup dX10_init_113 rfl ?_
  refine aw_callIN dX10_init_114 ckX10_54 rfl (iX6 _ _ 21 rfl (by decide)) rfl (Nat.le_of_ble_eq_true rfl) (by decide) (by decide) (Nat.le_of_ble_eq_true rfl) (Nat.le_of_ble_eq_true rfl) (fun r114 h114 n114 hp114 => ?_)
  obtain ⟨rfl, rfl, rfl⟩ := hp114
  refine aw_aast (Cv := RX6) (Cn := RX2) dX10_init_117 rfl rfl ⟨_, _, rfl⟩ (Or.inr (tl8 (List.mem_of_getElem? (i := 33) (by decide +kernel)))) (vp_in_iff.mpr (by decide)) ?_
  refine aw_aload_n dX10_init_118 rfl ?_
  refine aw_getf (v := .ref 20) dX10_init_119 flX10_48_9 rfl rfl ?_
  refine aw_iconst (v := 1) dX10_init_122 (by decide) ?_
  refine aw_new dX10_init_123 knX10_55 (Nat.le_of_ble_eq_true rfl) (Nat.le_of_ble_eq_true rfl) ?_
  refine aw_dup dX10_init_126 rfl ?_
  refine aw_callIN dX10_init_127 ckX10_57 rfl (iX5 _ _ 23) rfl (Nat.le_of_ble_eq_true rfl) (by decide) (by decide) (Nat.le_of_ble_eq_true rfl) (Nat.le_of_ble_eq_true rfl) (fun r127 h127 n127 hp127 => ?_)
  obtain ⟨rfl, rfl, rfl⟩ := hp127
  refine aw_aast (Cv := RX5) (Cn := RX2) dX10_init_130 rfl rfl ⟨_, _, rfl⟩ (Or.inr (tl8 (List.mem_of_getElem? (i := 32) (by decide +kernel)))) (vp_in_iff.mpr (by decide)) ?_
  refine aw_aload_n dX10_init_131 rfl ?_
  refine aw_getf (v := .ref 20) dX10_init_132 flX10_48_9 rfl rfl ?_
  refine aw_iconst (v := 2) dX10_init_135 (by decide) ?_
  refine aw_new dX10_init_136 knX10_58 (Nat.le_of_ble_eq_true rfl) (Nat.le_of_ble_eq_true rfl) ?_
  refine aw_dup dX10_init_139 rfl ?_
  refine aw_aload_n dX10_init_140 rfl ?_
  refine aw_getf (v := .ref 17) dX10_init_141 flX10_42_9 rfl rfl ?_
  refine aw_callI dX10_init_144 ckX10_60 rfl (iX0 _ _ 24 17 rfl (by decide)) rfl (Nat.le_of_ble_eq_true rfl) (by decide) (by decide) (Nat.le_of_ble_eq_true rfl) (Nat.le_of_ble_eq_true rfl) (fun r144 h144 n144 hp144 => ?_)
  obtain ⟨rfl, rfl, rfl⟩ := hp144
  refine aw_aast (Cv := RX0) (Cn := RX2) dX10_init_147 rfl rfl ⟨_, _, rfl⟩ (Or.inr (tl8 (List.mem_of_getElem? (i := 30) (by decide +kernel)))) (vp_in_iff.mpr (by decide)) ?_
  refine aw_aload_n dX10_init_148 rfl ?_
  refine aw_getf (v := .ref 20) dX10_init_149 flX10_48_9 rfl rfl ?_
  refine aw_iconst (v := 3) dX10_init_152 (by decide) ?_
  refine aw_new dX10_init_153 knX10_63 (Nat.le_of_ble_eq_true rfl) (Nat.le_of_ble_eq_true rfl) ?_
  refine aw_dup dX10_init_156 rfl ?_
  refine aw_aload_n dX10_init_157 rfl ?_
  refine aw_getf (v := .ref 17) dX10_init_158 flX10_42_9 rfl rfl ?_
  refine aw_callI dX10_init_161 ckX10_65 rfl (iX9 _ _ 26 17 rfl (by decide)) rfl (Nat.le_of_ble_eq_true rfl) (by decide) (by decide) (Nat.le_of_ble_eq_true rfl) (Nat.le_of_ble_eq_true rfl) (fun r161 h161 n161 hp161 => ?_)
  obtain ⟨rfl, rfl, rfl⟩ := hp161
  refine aw_aast (Cv := RX9) (Cn := RX2) dX10_init_164 rfl rfl ⟨_, _, rfl⟩ (Or.inr (tl8 (List.mem_of_getElem? (i := 34) (by decide +kernel)))) (vp_in_iff.mpr (by decide)) ?_
  refine aw_aload_n dX10_init_165 rfl ?_
  refine aw_getf (v := .ref 20) dX10_init_166 flX10_48_9 rfl rfl ?_
  refine aw_iconst (v := 4) dX10_init_169 (by decide) ?_
  refine aw_new dX10_init_170 knX10_66 (Nat.le_of_ble_eq_true rfl) (Nat.le_of_ble_eq_true rfl) ?_
  refine aw_dup dX10_init_173 rfl ?_
  refine aw_aload_n dX10_init_174 rfl ?_
  refine aw_getf (v := .ref 17) dX10_init_175 flX10_42_9 rfl rfl ?_
  refine aw_callI dX10_init_178 ckX10_68 rfl (iX4 _ _ 28 17 rfl (by decide)) rfl (Nat.le_of_ble_eq_true rfl) (by decide) (by decide) (Nat.le_of_ble_eq_true rfl) (Nat.le_of_ble_eq_true rfl) (fun r178 h178 n178 hp178 => ?_)
  obtain ⟨rfl, rfl, rfl⟩ := hp178
  refine aw_aast (Cv := RX4) (Cn := RX2) dX10_init_181 rfl rfl ⟨_, _, rfl⟩ (Or.inr (tl8 (List.mem_of_getElem? (i := 31) (by decide +kernel)))) (vp_in_iff.mpr (by decide)) ?_
  refine aw_aload_n dX10_init_182 rfl ?_
  refine aw_iconst (v := 4) dX10_init_183 (by decide) ?_
  refine aw_newaI (N := 4) dX10_init_184 ka_int (by decide) (by decide) (by decide) (Nat.le_of_ble_eq_true rfl) (Nat.le_of_ble_eq_true rfl) ?_
  refine aw_putF dX10_init_186 ptX10_69_9 rfl rfl (Nat.le_of_ble_eq_true rfl) (fun _ => ⟨rfl, rfl⟩) ?_
  refine aw_aload_n dX10_init_189 rfl ?_
  refine aw_getf (v := .ref 30) dX10_init_190 flX10_69_9 rfl rfl ?_
  refine aw_iconst (v := (-1)) dX10_init_193 (by decide) ?_
  refine aw_callS dX10_init_194 csX10_73 rfl (kJ_fill _ _ 30 4 (fun _ => 0) (-1) rfl (by decide)) rfl (Nat.le_of_ble_eq_true rfl) (by decide) (by decide) (Nat.le_of_ble_eq_true rfl) (Nat.le_of_ble_eq_true rfl) (fun _ _ _ hf => False.elim hf) (fun r194 h194 n194 hp194 => ?_)
  obtain ⟨rfl, rfl, rfl⟩ := hp194
  refine aw_aload_n dX10_init_197 rfl ?_
  refine aw_iconst (v := (-1)) dX10_init_198 (by decide) ?_
  refine aw_putf dX10_init_199 ptX10_79_9 rfl (Nat.le_of_ble_eq_true rfl) ⟨rfl, rfl⟩ ?_
  refine aw_vret dX10_init_202 rfl (Nat.le_of_ble_eq_true rfl) (Nat.le_of_ble_eq_true rfl) (Nat.le_of_ble_eq_true rfl) (Nat.le_of_ble_eq_true rfl) ⟨rfl, ?_, rfl⟩
  unfold HC0
  funext k
  by_cases e0 : k = 0
  · subst e0; rfl
  by_cases e1 : k = 1
  · subst e1; exact congrArg (fun f => (some (.inl (.object RX7, 4, .inr (.inr (.inr (.inr f))))) : Option ao)) shI_ok
  by_cases e2 : k = 2
  · subst e2; rfl
  by_cases e3 : k = 3
  · subst e3; rfl
  by_cases e4 : k = 4
  · subst e4; rfl
  by_cases e5 : k = 5
  · subst e5; rfl
  by_cases e6 : k = 6
  · subst e6; rfl
  by_cases e7 : k = 7
  · subst e7; rfl
  by_cases e8 : k = 8
  · subst e8; rfl
  by_cases e9 : k = 9
  · subst e9; rfl
  by_cases e10 : k = 10
  · subst e10; rfl
  by_cases e11 : k = 11
  · subst e11; rfl
  by_cases e12 : k = 12
  · subst e12; rfl
  by_cases e13 : k = 13
  · subst e13; rfl
  by_cases e14 : k = 14
  · subst e14; rfl
  by_cases e15 : k = 15
  · subst e15; rfl
  by_cases e16 : k = 16
  · subst e16; rfl
  by_cases e17 : k = 17
  · subst e17; rfl
  by_cases e18 : k = 18
  · subst e18; rfl
  by_cases e19 : k = 19
  · subst e19; rfl
  by_cases e20 : k = 20
  · subst e20; exact congrArg (fun f => (some (.inl (.object RX2, 5, .inr (.inr (.inr (.inr f))))) : Option ao)) fmts_ok
  by_cases e21 : k = 21
  · subst e21; rfl
  by_cases e22 : k = 22
  · subst e22; rfl
  by_cases e23 : k = 23
  · subst e23; rfl
  by_cases e24 : k = 24
  · subst e24; rfl
  by_cases e25 : k = 25
  · subst e25; rfl
  by_cases e26 : k = 26
  · subst e26; rfl
  by_cases e27 : k = 27
  · subst e27; rfl
  by_cases e28 : k = 28
  · subst e28; rfl
  by_cases e29 : k = 29
  · subst e29; rfl
  by_cases e30 : k = 30
  · subst e30; rfl
  rw [HC_ge (by omega)]
  simp only [va_up, e0, e1, e2, e3, e4, e5, e6, e7, e8, e9, e10, e11, e12, e13, e14, e15, e16, e17, e18, e19, e20, e21, e22, e23, e24, e25, e26, e27, e28, e29, e30, if_false]
def HM0 (h : aH) : aH := HM (0, 0, -1, -1, -1, -1, -1) (0, 0, 0) (0, 0, 0, 0, 0, 0, 0, 0, 0) 0 (fun _ => 0) (fun _ => 0) (fun _ => 0) (fun _ => 0) (fun _ => 0) (fun _ => 0) (fun _ => 0) (fun _ => 0) (fun _ => 0) (fun _ => 0) (fun _ => 0) h
set_option maxHeartbeats 4000000 in
set_option maxRecDepth 100000 in
theorem iX11 (h0 : aH) : AM mX11_init 1 [.ref 31] (va_up h0 31 (some (.inr (10, [.null, .int 0, .null, .int 0, .int 0, .null, .null, .null, .int 0, .null, .int 0, .int 0, .int 0, .int 0, .null, .int 0, .int 0, .int 0, .int 0, .int 0, .int 0, .int 0, .int 0, .int 0, .int 0, .null, .null, .null, .null, .null, .int 0])))) 32 11 237896 11 237896 (fun r h2 n2 => r = none ∧ h2 = HM0 h0 ∧ n2 = 43) noX := by
  refine aw_of (by decide +kernel) rfl (Nat.le_of_ble_eq_true rfl) ?_
  refine aw_aload_n dX11_init_0 rfl ?_
  refine aw_obj dX11_init_1 ti1397 ti153 ti154 (by decide) (Nat.le_of_ble_eq_true rfl) ?_
  refine aw_aload_n dX11_init_4 rfl ?_
  refine aw_ldc dX11_init_5 kcX11_9 ?_
  refine aw_newaB (N := 65536) dX11_init_7 ka_byte (by decide) (by decide) (by decide) (Nat.le_of_ble_eq_true rfl) (Nat.le_of_ble_eq_true rfl) ?_
  refine aw_putF dX11_init_9 ptX11_10_10 rfl rfl (Nat.le_of_ble_eq_true rfl) (fun _ => ⟨rfl, rfl⟩) ?_
  refine aw_aload_n dX11_init_12 rfl ?_
  refine aw_ldc dX11_init_13 kcX11_9 ?_
  refine aw_newaB (N := 65536) dX11_init_15 ka_byte (by decide) (by decide) (by decide) (Nat.le_of_ble_eq_true rfl) (Nat.le_of_ble_eq_true rfl) ?_
  refine aw_putF dX11_init_17 ptX11_14_10 rfl rfl (Nat.le_of_ble_eq_true rfl) (fun _ => ⟨rfl, rfl⟩) ?_
  refine aw_aload_n dX11_init_20 rfl ?_
  refine aw_sipush (v := 16384) dX11_init_21 (by decide) ?_
  refine aw_newaI (N := 16384) dX11_init_24 ka_int (by decide) (by decide) (by decide) (Nat.le_of_ble_eq_true rfl) (Nat.le_of_ble_eq_true rfl) ?_
  refine aw_putF dX11_init_26 ptX11_17_10 rfl rfl (Nat.le_of_ble_eq_true rfl) (fun _ => ⟨rfl, rfl⟩) ?_
  refine aw_aload_n dX11_init_29 rfl ?_
  refine aw_iconst (v := 4) dX11_init_30 (by decide) ?_
  refine aw_newaI (N := 4) dX11_init_31 ka_int (by decide) (by decide) (by decide) (Nat.le_of_ble_eq_true rfl) (Nat.le_of_ble_eq_true rfl) ?_
  refine aw_putF dX11_init_33 ptX11_21_10 rfl rfl (Nat.le_of_ble_eq_true rfl) (fun _ => ⟨rfl, rfl⟩) ?_
  refine aw_aload_n dX11_init_36 rfl ?_
  refine aw_iconst (v := 4) dX11_init_37 (by decide) ?_
  refine aw_newaI (N := 4) dX11_init_38 ka_int (by decide) (by decide) (by decide) (Nat.le_of_ble_eq_true rfl) (Nat.le_of_ble_eq_true rfl) ?_
  refine aw_putF dX11_init_40 ptX11_24_10 rfl rfl (Nat.le_of_ble_eq_true rfl) (fun _ => ⟨rfl, rfl⟩) ?_
  refine aw_aload_n dX11_init_43 rfl ?_
  refine aw_sipush (v := 4096) dX11_init_44 (by decide) ?_
  refine aw_newaI (N := 4096) dX11_init_47 ka_int (by decide) (by decide) (by decide) (Nat.le_of_ble_eq_true rfl) (Nat.le_of_ble_eq_true rfl) ?_
  refine aw_putF dX11_init_49 ptX11_27_10 rfl rfl (Nat.le_of_ble_eq_true rfl) (fun _ => ⟨rfl, rfl⟩) ?_
  refine aw_aload_n dX11_init_52 rfl ?_
  refine aw_iconst (v := (-1)) dX11_init_53 (by decide) ?_
  refine aw_putf dX11_init_54 ptX11_30_10 rfl (Nat.le_of_ble_eq_true rfl) ⟨rfl, rfl⟩ ?_
  refine aw_aload_n dX11_init_57 rfl ?_
  refine aw_iconst (v := (-1)) dX11_init_58 (by decide) ?_
  refine aw_putf dX11_init_59 ptX11_34_10 rfl (Nat.le_of_ble_eq_true rfl) ⟨rfl, rfl⟩ ?_
  refine aw_aload_n dX11_init_62 rfl ?_
  refine aw_iconst (v := (-1)) dX11_init_63 (by decide) ?_
  refine aw_putf dX11_init_64 ptX11_37_10 rfl (Nat.le_of_ble_eq_true rfl) ⟨rfl, rfl⟩ ?_
  refine aw_aload_n dX11_init_67 rfl ?_
  refine aw_iconst (v := (-1)) dX11_init_68 (by decide) ?_
  refine aw_putf dX11_init_69 ptX11_40_10 rfl (Nat.le_of_ble_eq_true rfl) ⟨rfl, rfl⟩ ?_
  refine aw_aload_n dX11_init_72 rfl ?_
  refine aw_iconst (v := (-1)) dX11_init_73 (by decide) ?_
  refine aw_putf dX11_init_74 ptX11_43_10 rfl (Nat.le_of_ble_eq_true rfl) ⟨rfl, rfl⟩ ?_
  refine aw_aload_n dX11_init_77 rfl ?_
  refine aw_bipush (v := 64) dX11_init_78 (by decide) ?_
  refine aw_newaI (N := 64) dX11_init_80 ka_int (by decide) (by decide) (by decide) (Nat.le_of_ble_eq_true rfl) (Nat.le_of_ble_eq_true rfl) ?_
  refine aw_putF dX11_init_82 ptX11_46_10 rfl rfl (Nat.le_of_ble_eq_true rfl) (fun _ => ⟨rfl, rfl⟩) ?_
  refine aw_aload_n dX11_init_85 rfl ?_
  refine aw_ldc dX11_init_86 kcX11_9 ?_
  refine aw_newaI (N := 65536) dX11_init_88 ka_int (by decide) (by decide) (by decide) (Nat.le_of_ble_eq_true rfl) (Nat.le_of_ble_eq_true rfl) ?_
  refine aw_putF dX11_init_90 ptX11_49_10 rfl rfl (Nat.le_of_ble_eq_true rfl) (fun _ => ⟨rfl, rfl⟩) ?_
  refine aw_aload_n dX11_init_93 rfl ?_
  refine aw_sipush (v := 16384) dX11_init_94 (by decide) ?_
  refine aw_newaB (N := 16384) dX11_init_97 ka_byte (by decide) (by decide) (by decide) (Nat.le_of_ble_eq_true rfl) (Nat.le_of_ble_eq_true rfl) ?_
  refine aw_putF dX11_init_99 ptX11_52_10 rfl rfl (Nat.le_of_ble_eq_true rfl) (fun _ => ⟨rfl, rfl⟩) ?_
  refine aw_aload_n dX11_init_102 rfl ?_
  refine aw_sipush (v := 4096) dX11_init_103 (by decide) ?_
  refine aw_newaI (N := 4096) dX11_init_106 ka_int (by decide) (by decide) (by decide) (Nat.le_of_ble_eq_true rfl) (Nat.le_of_ble_eq_true rfl) ?_
  refine aw_putF dX11_init_108 ptX11_55_10 rfl rfl (Nat.le_of_ble_eq_true rfl) (fun _ => ⟨rfl, rfl⟩) ?_
  refine aw_aload_n dX11_init_111 rfl ?_
  refine aw_sipush (v := 256) dX11_init_112 (by decide) ?_
  refine aw_newaI (N := 256) dX11_init_115 ka_int (by decide) (by decide) (by decide) (Nat.le_of_ble_eq_true rfl) (Nat.le_of_ble_eq_true rfl) ?_
  refine aw_putF dX11_init_117 ptX11_58_10 rfl rfl (Nat.le_of_ble_eq_true rfl) (fun _ => ⟨rfl, rfl⟩) ?_
  refine aw_vret dX11_init_120 rfl (Nat.le_of_ble_eq_true rfl) (Nat.le_of_ble_eq_true rfl) (Nat.le_of_ble_eq_true rfl) (Nat.le_of_ble_eq_true rfl) ⟨rfl, ?_, rfl⟩
  unfold HM0
  funext k
  by_cases e31 : k = 31
  · subst e31; rfl
  by_cases e32 : k = 32
  · subst e32; rfl
  by_cases e33 : k = 33
  · subst e33; rfl
  by_cases e34 : k = 34
  · subst e34; rfl
  by_cases e35 : k = 35
  · subst e35; rfl
  by_cases e36 : k = 36
  · subst e36; rfl
  by_cases e37 : k = 37
  · subst e37; rfl
  by_cases e38 : k = 38
  · subst e38; rfl
  by_cases e39 : k = 39
  · subst e39; rfl
  by_cases e40 : k = 40
  · subst e40; rfl
  by_cases e41 : k = 41
  · subst e41; rfl
  by_cases e42 : k = 42
  · subst e42; rfl
  unfold HM
  simp only [va_up, e31, e32, e33, e34, e35, e36, e37, e38, e39, e40, e41, e42, if_false]
