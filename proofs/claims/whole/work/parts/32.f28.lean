def P_X11_writeTarga (mo : MO) (mr : MR) (ms : Nat) (mt : A) (dd : A) (wi : A) (hi : A) (gt : A) (sp : A) (ta : A) (li : A) (sr : A) (hb : aH) (n : Nat) (res : Out (MW × A × A) Unit) : Option Value → aH → Nat → Prop := fun r1 h2 n2 => ∃ (a : Unit) (s : (MW × A × A)), res = fok a s ∧ r1 = none ∧ h2 = HM mo s.1 mr ms mt s.2.1 dd wi hi gt sp ta li sr s.2.2 hb ∧ n = n2
abbrev Q_X11_writeTarga_13 (mo : MO) (mr : MR) (ms : Nat) (mt : A) (dd : A) (wi : A) (hi : A) (gt : A) (sp : A) (ta : A) (li : A) (sr : A) (hb : aH) (n : Nat) (k : Int32 → Int32 → Int32 → MW → A → A → Out (MW × A × A) Unit) : Prop := ∀ (v1 : Int32) (v2 : Int32) (t0 : Int32) (mw : MW) (mu : A) (co : A) (res : Out (MW × A × A) Unit), k v1 v2 t0 mw mu co = res → res ≠ fno → AW (fun _ _ => True) mX11_writeTarga (rmD 3 0 0) 0 0 (P_X11_writeTarga mo mr ms mt dd wi hi gt sp ta li sr hb n res) (fun _ _ _ => False) 0 0 13 [(0, .ref 31), (1, .int v1), (2, .int v2)] [.int t0] (HM mo mw mr ms mt mu dd wi hi gt sp ta li sr co hb) n
abbrev Q_X11_writeTarga_25 (mo : MO) (mr : MR) (ms : Nat) (mt : A) (dd : A) (wi : A) (hi : A) (gt : A) (sp : A) (ta : A) (li : A) (sr : A) (hb : aH) (n : Nat) (k : Int32 → Int32 → Int32 → Int32 → MW → A → A → Out (MW × A × A) Unit) : Prop := ∀ (v1 : Int32) (v2 : Int32) (v3 : Int32) (t0 : Int32) (mw : MW) (mu : A) (co : A) (res : Out (MW × A × A) Unit), k v1 v2 v3 t0 mw mu co = res → res ≠ fno → AW (fun _ _ => True) mX11_writeTarga (rmD 3 0 0) 0 0 (P_X11_writeTarga mo mr ms mt dd wi hi gt sp ta li sr hb n res) (fun _ _ _ => False) 0 0 25 [(0, .ref 31), (1, .int v1), (2, .int v2), (3, .int v3)] [.int t0] (HM mo mw mr ms mt mu dd wi hi gt sp ta li sr co hb) n
abbrev Q_X11_writeTarga_39 (mo : MO) (mr : MR) (ms : Nat) (mt : A) (dd : A) (wi : A) (hi : A) (gt : A) (sp : A) (ta : A) (li : A) (sr : A) (hb : aH) (n : Nat) (k : Int32 → Int32 → Int32 → Int32 → MW → A → A → Out (MW × A × A) Unit) : Prop := ∀ (v1 : Int32) (v2 : Int32) (v3 : Int32) (v4 : Int32) (mw : MW) (mu : A) (co : A) (res : Out (MW × A × A) Unit), k v1 v2 v3 v4 mw mu co = res → res ≠ fno → AW (fun _ _ => True) mX11_writeTarga (rmD 3 0 0) 0 0 (P_X11_writeTarga mo mr ms mt dd wi hi gt sp ta li sr hb n res) (fun _ _ _ => False) 0 0 39 [(0, .ref 31), (1, .int v1), (2, .int v2), (3, .int v3), (4, .int v4)] [] (HM mo mw mr ms mt mu dd wi hi gt sp ta li sr co hb) n
abbrev Q_X11_writeTarga_44 (mo : MO) (mr : MR) (ms : Nat) (mt : A) (dd : A) (wi : A) (hi : A) (gt : A) (sp : A) (ta : A) (li : A) (sr : A) (hb : aH) (n : Nat) (k : Int32 → Int32 → Int32 → Int32 → Int32 → MW → A → A → Out (MW × A × A) Unit) : Prop := ∀ (v1 : Int32) (v2 : Int32) (v3 : Int32) (v4 : Int32) (t0 : Int32) (mw : MW) (mu : A) (co : A) (res : Out (MW × A × A) Unit), k v1 v2 v3 v4 t0 mw mu co = res → res ≠ fno → AW (fun _ _ => True) mX11_writeTarga (rmD 3 0 0) 0 0 (P_X11_writeTarga mo mr ms mt dd wi hi gt sp ta li sr hb n res) (fun _ _ _ => False) 0 0 44 [(0, .ref 31), (1, .int v1), (2, .int v2), (3, .int v3), (4, .int v4)] [.int t0] (HM mo mw mr ms mt mu dd wi hi gt sp ta li sr co hb) n
abbrev Q_X11_writeTarga_56 (mo : MO) (mr : MR) (ms : Nat) (mt : A) (dd : A) (wi : A) (hi : A) (gt : A) (sp : A) (ta : A) (li : A) (sr : A) (hb : aH) (n : Nat) (k : Int32 → Int32 → Int32 → Int32 → Int32 → MW → A → A → Out (MW × A × A) Unit) : Prop := ∀ (v1 : Int32) (v2 : Int32) (v3 : Int32) (v4 : Int32) (v5 : Int32) (mw : MW) (mu : A) (co : A) (res : Out (MW × A × A) Unit), k v1 v2 v3 v4 v5 mw mu co = res → res ≠ fno → AW (fun _ _ => True) mX11_writeTarga (rmD 3 0 0) 0 0 (P_X11_writeTarga mo mr ms mt dd wi hi gt sp ta li sr hb n res) (fun _ _ _ => False) 0 0 56 [(0, .ref 31), (1, .int v1), (2, .int v2), (3, .int v3), (4, .int v4), (5, .int v5)] [] (HM mo mw mr ms mt mu dd wi hi gt sp ta li sr co hb) n
abbrev Q_X11_writeTarga_72 (mo : MO) (mr : MR) (ms : Nat) (mt : A) (dd : A) (wi : A) (hi : A) (gt : A) (sp : A) (ta : A) (li : A) (sr : A) (hb : aH) (n : Nat) (k : Int32 → Int32 → Int32 → Int32 → Int32 → Int32 → MW → A → A → Out (MW × A × A) Unit) : Prop := ∀ (v1 : Int32) (v2 : Int32) (v3 : Int32) (v4 : Int32) (v5 : Int32) (t0 : Int32) (mw : MW) (mu : A) (co : A) (res : Out (MW × A × A) Unit), k v1 v2 v3 v4 v5 t0 mw mu co = res → res ≠ fno → AW (fun _ _ => True) mX11_writeTarga (rmD 3 0 0) 0 0 (P_X11_writeTarga mo mr ms mt dd wi hi gt sp ta li sr hb n res) (fun _ _ _ => False) 0 0 72 [(0, .ref 31), (1, .int v1), (2, .int v2), (3, .int v3), (4, .int v4), (5, .int v5)] [.int t0, .ref 31] (HM mo mw mr ms mt mu dd wi hi gt sp ta li sr co hb) n
abbrev Q_X11_writeTarga_130 (mo : MO) (mr : MR) (ms : Nat) (mt : A) (dd : A) (wi : A) (hi : A) (gt : A) (sp : A) (ta : A) (li : A) (sr : A) (hb : aH) (n : Nat) (k : Int32 → Int32 → Int32 → Int32 → Int32 → Int32 → MW → A → A → Out (MW × A × A) Unit) : Prop := ∀ (v1 : Int32) (v2 : Int32) (v3 : Int32) (v4 : Int32) (v5 : Int32) (t0 : Int32) (mw : MW) (mu : A) (co : A) (res : Out (MW × A × A) Unit), k v1 v2 v3 v4 v5 t0 mw mu co = res → res ≠ fno → AW (fun _ _ => True) mX11_writeTarga (rmD 3 0 0) 0 0 (P_X11_writeTarga mo mr ms mt dd wi hi gt sp ta li sr hb n res) (fun _ _ _ => False) 0 0 130 [(0, .ref 31), (1, .int v1), (2, .int v2), (3, .int v3), (4, .int v4), (5, .int v5)] [.int t0, .ref 31] (HM mo mw mr ms mt mu dd wi hi gt sp ta li sr co hb) n
abbrev Q_X11_writeTarga_153 (mo : MO) (mr : MR) (ms : Nat) (mt : A) (dd : A) (wi : A) (hi : A) (gt : A) (sp : A) (ta : A) (li : A) (sr : A) (hb : aH) (n : Nat) (k : Int32 → Int32 → Int32 → Int32 → Int32 → Int32 → MW → A → A → Out (MW × A × A) Unit) : Prop := ∀ (v1 : Int32) (v2 : Int32) (v3 : Int32) (v4 : Int32) (v5 : Int32) (t0 : Int32) (mw : MW) (mu : A) (co : A) (res : Out (MW × A × A) Unit), k v1 v2 v3 v4 v5 t0 mw mu co = res → res ≠ fno → AW (fun _ _ => True) mX11_writeTarga (rmD 3 0 0) 0 0 (P_X11_writeTarga mo mr ms mt dd wi hi gt sp ta li sr hb n res) (fun _ _ _ => False) 0 0 153 [(0, .ref 31), (1, .int v1), (2, .int v2), (3, .int v3), (4, .int v4), (5, .int v5)] [.int t0, .ref 31] (HM mo mw mr ms mt mu dd wi hi gt sp ta li sr co hb) n
abbrev Q_X11_writeTarga_171 (mo : MO) (mr : MR) (ms : Nat) (mt : A) (dd : A) (wi : A) (hi : A) (gt : A) (sp : A) (ta : A) (li : A) (sr : A) (hb : aH) (n : Nat) (k : Int32 → Int32 → Int32 → Int32 → Int32 → Int32 → MW → A → A → Out (MW × A × A) Unit) : Prop := ∀ (v1 : Int32) (v2 : Int32) (v3 : Int32) (v4 : Int32) (v5 : Int32) (t0 : Int32) (mw : MW) (mu : A) (co : A) (res : Out (MW × A × A) Unit), k v1 v2 v3 v4 v5 t0 mw mu co = res → res ≠ fno → AW (fun _ _ => True) mX11_writeTarga (rmD 3 0 0) 0 0 (P_X11_writeTarga mo mr ms mt dd wi hi gt sp ta li sr hb n res) (fun _ _ _ => False) 0 0 171 [(0, .ref 31), (1, .int v1), (2, .int v2), (3, .int v3), (4, .int v4), (5, .int v5)] [.int t0, .ref 31] (HM mo mw mr ms mt mu dd wi hi gt sp ta li sr co hb) n
abbrev Q_X11_writeTarga_213 (mo : MO) (mr : MR) (ms : Nat) (mt : A) (dd : A) (wi : A) (hi : A) (gt : A) (sp : A) (ta : A) (li : A) (sr : A) (hb : aH) (n : Nat) (k : Int32 → Int32 → Int32 → Int32 → Int32 → MW → A → A → Out (MW × A × A) Unit) : Prop := ∀ (v1 : Int32) (v2 : Int32) (v3 : Int32) (v4 : Int32) (v5 : Int32) (mw : MW) (mu : A) (co : A) (res : Out (MW × A × A) Unit), k v1 v2 v3 v4 v5 mw mu co = res → res ≠ fno → AW (fun _ _ => True) mX11_writeTarga (rmD 3 0 0) 0 0 (P_X11_writeTarga mo mr ms mt dd wi hi gt sp ta li sr hb n res) (fun _ _ _ => False) 0 0 213 [(0, .ref 31), (1, .int v1), (2, .int v2), (3, .int v3), (4, .int v4), (5, .int v5)] [.ref 31] (HM mo mw mr ms mt mu dd wi hi gt sp ta li sr co hb) n
abbrev Q_X11_writeTarga_222 (mo : MO) (mr : MR) (ms : Nat) (mt : A) (dd : A) (wi : A) (hi : A) (gt : A) (sp : A) (ta : A) (li : A) (sr : A) (hb : aH) (n : Nat) (k : Int32 → Int32 → Int32 → Int32 → Int32 → Int32 → MW → A → A → Out (MW × A × A) Unit) : Prop := ∀ (v1 : Int32) (v2 : Int32) (v3 : Int32) (v4 : Int32) (v5 : Int32) (t0 : Int32) (mw : MW) (mu : A) (co : A) (res : Out (MW × A × A) Unit), k v1 v2 v3 v4 v5 t0 mw mu co = res → res ≠ fno → AW (fun _ _ => True) mX11_writeTarga (rmD 3 0 0) 0 0 (P_X11_writeTarga mo mr ms mt dd wi hi gt sp ta li sr hb n res) (fun _ _ _ => False) 0 0 222 [(0, .ref 31), (1, .int v1), (2, .int v2), (3, .int v3), (4, .int v4), (5, .int v5)] [.int t0, .ref 31] (HM mo mw mr ms mt mu dd wi hi gt sp ta li sr co hb) n
abbrev Q_X11_writeTarga_241 (mo : MO) (mr : MR) (ms : Nat) (mt : A) (dd : A) (wi : A) (hi : A) (gt : A) (sp : A) (ta : A) (li : A) (sr : A) (hb : aH) (n : Nat) (k : Int32 → Int32 → Int32 → Int32 → Int32 → MW → A → A → Out (MW × A × A) Unit) : Prop := ∀ (v1 : Int32) (v2 : Int32) (v3 : Int32) (v4 : Int32) (v5 : Int32) (mw : MW) (mu : A) (co : A) (res : Out (MW × A × A) Unit), k v1 v2 v3 v4 v5 mw mu co = res → res ≠ fno → AW (fun _ _ => True) mX11_writeTarga (rmD 3 0 0) 0 0 (P_X11_writeTarga mo mr ms mt dd wi hi gt sp ta li sr hb n res) (fun _ _ _ => False) 0 0 241 [(0, .ref 31), (1, .int v1), (2, .int v2), (3, .int v3), (4, .int v4), (5, .int v5)] [.ref 31] (HM mo mw mr ms mt mu dd wi hi gt sp ta li sr co hb) n
abbrev Q_X11_writeTarga_243 (mo : MO) (mr : MR) (ms : Nat) (mt : A) (dd : A) (wi : A) (hi : A) (gt : A) (sp : A) (ta : A) (li : A) (sr : A) (hb : aH) (n : Nat) (k : Int32 → Int32 → Int32 → Int32 → Int32 → Int32 → MW → A → A → Out (MW × A × A) Unit) : Prop := ∀ (v1 : Int32) (v2 : Int32) (v3 : Int32) (v4 : Int32) (v5 : Int32) (t0 : Int32) (mw : MW) (mu : A) (co : A) (res : Out (MW × A × A) Unit), k v1 v2 v3 v4 v5 t0 mw mu co = res → res ≠ fno → AW (fun _ _ => True) mX11_writeTarga (rmD 3 0 0) 0 0 (P_X11_writeTarga mo mr ms mt dd wi hi gt sp ta li sr hb n res) (fun _ _ _ => False) 0 0 243 [(0, .ref 31), (1, .int v1), (2, .int v2), (3, .int v3), (4, .int v4), (5, .int v5)] [.int t0, .ref 31] (HM mo mw mr ms mt mu dd wi hi gt sp ta li sr co hb) n
abbrev Q_X11_writeTarga_254 (mo : MO) (mr : MR) (ms : Nat) (mt : A) (dd : A) (wi : A) (hi : A) (gt : A) (sp : A) (ta : A) (li : A) (sr : A) (hb : aH) (n : Nat) (k : Int32 → Int32 → Int32 → Int32 → Int32 → Int32 → MW → A → A → Out (MW × A × A) Unit) : Prop := ∀ (v1 : Int32) (v2 : Int32) (v3 : Int32) (v4 : Int32) (v5 : Int32) (v6 : Int32) (mw : MW) (mu : A) (co : A) (res : Out (MW × A × A) Unit), k v1 v2 v3 v4 v5 v6 mw mu co = res → res ≠ fno → AW (fun _ _ => True) mX11_writeTarga (rmD 3 0 0) 0 0 (P_X11_writeTarga mo mr ms mt dd wi hi gt sp ta li sr hb n res) (fun _ _ _ => False) 0 0 254 [(0, .ref 31), (1, .int v1), (2, .int v2), (3, .int v3), (4, .int v4), (5, .int v5), (6, .int v6)] [] (HM mo mw mr ms mt mu dd wi hi gt sp ta li sr co hb) n
abbrev Q_X11_writeTarga_281 (mo : MO) (mr : MR) (ms : Nat) (mt : A) (dd : A) (wi : A) (hi : A) (gt : A) (sp : A) (ta : A) (li : A) (sr : A) (hb : aH) (n : Nat) (k : Int32 → Int32 → Int32 → Int32 → Int32 → MW → A → A → Out (MW × A × A) Unit) : Prop := ∀ (v1 : Int32) (v2 : Int32) (v3 : Int32) (v4 : Int32) (v5 : Int32) (mw : MW) (mu : A) (co : A) (res : Out (MW × A × A) Unit), k v1 v2 v3 v4 v5 mw mu co = res → res ≠ fno → AW (fun _ _ => True) mX11_writeTarga (rmD 3 0 0) 0 0 (P_X11_writeTarga mo mr ms mt dd wi hi gt sp ta li sr hb n res) (fun _ _ _ => False) 0 0 281 [(0, .ref 31), (1, .int v1), (2, .int v2), (3, .int v3), (4, .int v4), (5, .int v5)] [] (HM mo mw mr ms mt mu dd wi hi gt sp ta li sr co hb) n
abbrev Q_X11_writeTarga_284 (mo : MO) (mr : MR) (ms : Nat) (mt : A) (dd : A) (wi : A) (hi : A) (gt : A) (sp : A) (ta : A) (li : A) (sr : A) (hb : aH) (n : Nat) (k : Int32 → Int32 → Int32 → Int32 → Int32 → Int32 → MW → A → A → Out (MW × A × A) Unit) : Prop := ∀ (v1 : Int32) (v2 : Int32) (v3 : Int32) (v4 : Int32) (v5 : Int32) (v6 : Int32) (mw : MW) (mu : A) (co : A) (res : Out (MW × A × A) Unit), k v1 v2 v3 v4 v5 v6 mw mu co = res → res ≠ fno → AW (fun _ _ => True) mX11_writeTarga (rmD 3 0 0) 0 0 (P_X11_writeTarga mo mr ms mt dd wi hi gt sp ta li sr hb n res) (fun _ _ _ => False) 0 0 284 [(0, .ref 31), (1, .int v1), (2, .int v2), (3, .int v3), (4, .int v4), (5, .int v5), (6, .int v6)] [] (HM mo mw mr ms mt mu dd wi hi gt sp ta li sr co hb) n
abbrev Q_X11_writeTarga_298 (mo : MO) (mr : MR) (ms : Nat) (mt : A) (dd : A) (wi : A) (hi : A) (gt : A) (sp : A) (ta : A) (li : A) (sr : A) (hb : aH) (n : Nat) (k : Int32 → Int32 → Int32 → Int32 → Int32 → Int32 → Int32 → MW → A → A → Out (MW × A × A) Unit) : Prop := ∀ (v1 : Int32) (v2 : Int32) (v3 : Int32) (v4 : Int32) (v5 : Int32) (v6 : Int32) (v7 : Int32) (mw : MW) (mu : A) (co : A) (res : Out (MW × A × A) Unit), k v1 v2 v3 v4 v5 v6 v7 mw mu co = res → res ≠ fno → AW (fun _ _ => True) mX11_writeTarga (rmD 3 0 0) 0 0 (P_X11_writeTarga mo mr ms mt dd wi hi gt sp ta li sr hb n res) (fun _ _ _ => False) 0 0 298 [(0, .ref 31), (1, .int v1), (2, .int v2), (3, .int v3), (4, .int v4), (5, .int v5), (6, .int v6), (7, .int v7)] [] (HM mo mw mr ms mt mu dd wi hi gt sp ta li sr co hb) n
abbrev Q_X11_writeTarga_333 (mo : MO) (mr : MR) (ms : Nat) (mt : A) (dd : A) (wi : A) (hi : A) (gt : A) (sp : A) (ta : A) (li : A) (sr : A) (hb : aH) (n : Nat) (k : Int32 → Int32 → Int32 → Int32 → Int32 → Int32 → Int32 → Int32 → Int32 → MW → A → A → Out (MW × A × A) Unit) : Prop := ∀ (v1 : Int32) (v2 : Int32) (v3 : Int32) (v4 : Int32) (v5 : Int32) (v6 : Int32) (v7 : Int32) (v8 : Int32) (v9 : Int32) (mw : MW) (mu : A) (co : A) (res : Out (MW × A × A) Unit), k v1 v2 v3 v4 v5 v6 v7 v8 v9 mw mu co = res → res ≠ fno → AW (fun _ _ => True) mX11_writeTarga (rmD 3 0 0) 0 0 (P_X11_writeTarga mo mr ms mt dd wi hi gt sp ta li sr hb n res) (fun _ _ _ => False) 0 0 333 [(0, .ref 31), (1, .int v1), (2, .int v2), (3, .int v3), (4, .int v4), (5, .int v5), (6, .int v6), (7, .int v7), (8, .int v8), (9, .int v9)] [] (HM mo mw mr ms mt mu dd wi hi gt sp ta li sr co hb) n
abbrev Q_X11_writeTarga_402 (mo : MO) (mr : MR) (ms : Nat) (mt : A) (dd : A) (wi : A) (hi : A) (gt : A) (sp : A) (ta : A) (li : A) (sr : A) (hb : aH) (n : Nat) (k : Int32 → Int32 → Int32 → Int32 → Int32 → Int32 → Int32 → Int32 → Int32 → MW → A → A → Out (MW × A × A) Unit) : Prop := ∀ (v1 : Int32) (v2 : Int32) (v3 : Int32) (v4 : Int32) (v5 : Int32) (v6 : Int32) (v7 : Int32) (v8 : Int32) (v9 : Int32) (mw : MW) (mu : A) (co : A) (res : Out (MW × A × A) Unit), k v1 v2 v3 v4 v5 v6 v7 v8 v9 mw mu co = res → res ≠ fno → AW (fun _ _ => True) mX11_writeTarga (rmD 3 0 0) 0 0 (P_X11_writeTarga mo mr ms mt dd wi hi gt sp ta li sr hb n res) (fun _ _ _ => False) 0 0 402 [(0, .ref 31), (1, .int v1), (2, .int v2), (3, .int v3), (4, .int v4), (5, .int v5), (6, .int v6), (7, .int v7), (8, .int v8), (9, .int v9)] [] (HM mo mw mr ms mt mu dd wi hi gt sp ta li sr co hb) n
abbrev Q_X11_writeTarga_408 (mo : MO) (mr : MR) (ms : Nat) (mt : A) (dd : A) (wi : A) (hi : A) (gt : A) (sp : A) (ta : A) (li : A) (sr : A) (hb : aH) (n : Nat) (k : Int32 → Int32 → Int32 → Int32 → Int32 → Int32 → Int32 → Int32 → Int32 → MW → A → A → Out (MW × A × A) Unit) : Prop := ∀ (v1 : Int32) (v2 : Int32) (v3 : Int32) (v4 : Int32) (v5 : Int32) (v6 : Int32) (v7 : Int32) (v8 : Int32) (v9 : Int32) (mw : MW) (mu : A) (co : A) (res : Out (MW × A × A) Unit), k v1 v2 v3 v4 v5 v6 v7 v8 v9 mw mu co = res → res ≠ fno → AW (fun _ _ => True) mX11_writeTarga (rmD 3 0 0) 0 0 (P_X11_writeTarga mo mr ms mt dd wi hi gt sp ta li sr hb n res) (fun _ _ _ => False) 0 0 408 [(0, .ref 31), (1, .int v1), (2, .int v2), (3, .int v3), (4, .int v4), (5, .int v5), (6, .int v6), (7, .int v7), (8, .int v8), (9, .int v9)] [] (HM mo mw mr ms mt mu dd wi hi gt sp ta li sr co hb) n
abbrev Q_X11_writeTarga_426 (mo : MO) (mr : MR) (ms : Nat) (mt : A) (dd : A) (wi : A) (hi : A) (gt : A) (sp : A) (ta : A) (li : A) (sr : A) (hb : aH) (n : Nat) (k : Int32 → Int32 → Int32 → Int32 → Int32 → Int32 → Int32 → Int32 → Int32 → Int32 → MW → A → A → Out (MW × A × A) Unit) : Prop := ∀ (v1 : Int32) (v2 : Int32) (v3 : Int32) (v4 : Int32) (v5 : Int32) (v6 : Int32) (v7 : Int32) (v8 : Int32) (v9 : Int32) (t0 : Int32) (mw : MW) (mu : A) (co : A) (res : Out (MW × A × A) Unit), k v1 v2 v3 v4 v5 v6 v7 v8 v9 t0 mw mu co = res → res ≠ fno → AW (fun _ _ => True) mX11_writeTarga (rmD 3 0 0) 0 0 (P_X11_writeTarga mo mr ms mt dd wi hi gt sp ta li sr hb n res) (fun _ _ _ => False) 0 0 426 [(0, .ref 31), (1, .int v1), (2, .int v2), (3, .int v3), (4, .int v4), (5, .int v5), (6, .int v6), (7, .int v7), (8, .int v8), (9, .int v9)] [.int t0, .ref 31] (HM mo mw mr ms mt mu dd wi hi gt sp ta li sr co hb) n
abbrev Q_X11_writeTarga_429 (mo : MO) (mr : MR) (ms : Nat) (mt : A) (dd : A) (wi : A) (hi : A) (gt : A) (sp : A) (ta : A) (li : A) (sr : A) (hb : aH) (n : Nat) (k : Int32 → Int32 → Int32 → Int32 → Int32 → Int32 → Int32 → Int32 → Int32 → MW → A → A → Out (MW × A × A) Unit) : Prop := ∀ (v1 : Int32) (v2 : Int32) (v3 : Int32) (v4 : Int32) (v5 : Int32) (v6 : Int32) (v7 : Int32) (v8 : Int32) (v9 : Int32) (mw : MW) (mu : A) (co : A) (res : Out (MW × A × A) Unit), k v1 v2 v3 v4 v5 v6 v7 v8 v9 mw mu co = res → res ≠ fno → AW (fun _ _ => True) mX11_writeTarga (rmD 3 0 0) 0 0 (P_X11_writeTarga mo mr ms mt dd wi hi gt sp ta li sr hb n res) (fun _ _ _ => False) 0 0 429 [(0, .ref 31), (1, .int v1), (2, .int v2), (3, .int v3), (4, .int v4), (5, .int v5), (6, .int v6), (7, .int v7), (8, .int v8), (9, .int v9)] [] (HM mo mw mr ms mt mu dd wi hi gt sp ta li sr co hb) n
abbrev Q_X11_writeTarga_432 (mo : MO) (mr : MR) (ms : Nat) (mt : A) (dd : A) (wi : A) (hi : A) (gt : A) (sp : A) (ta : A) (li : A) (sr : A) (hb : aH) (n : Nat) (k : Int32 → Int32 → Int32 → Int32 → Int32 → Int32 → Int32 → Int32 → Int32 → Int32 → MW → A → A → Out (MW × A × A) Unit) : Prop := ∀ (v1 : Int32) (v2 : Int32) (v3 : Int32) (v4 : Int32) (v5 : Int32) (v6 : Int32) (v7 : Int32) (v8 : Int32) (v9 : Int32) (v10 : Int32) (mw : MW) (mu : A) (co : A) (res : Out (MW × A × A) Unit), k v1 v2 v3 v4 v5 v6 v7 v8 v9 v10 mw mu co = res → res ≠ fno → AW (fun _ _ => True) mX11_writeTarga (rmD 3 0 0) 0 0 (P_X11_writeTarga mo mr ms mt dd wi hi gt sp ta li sr hb n res) (fun _ _ _ => False) 0 0 432 [(0, .ref 31), (1, .int v1), (2, .int v2), (3, .int v3), (4, .int v4), (5, .int v5), (6, .int v6), (7, .int v7), (8, .int v8), (9, .int v9), (10, .int v10)] [] (HM mo mw mr ms mt mu dd wi hi gt sp ta li sr co hb) n
abbrev Q_X11_writeTarga_445 (mo : MO) (mr : MR) (ms : Nat) (mt : A) (dd : A) (wi : A) (hi : A) (gt : A) (sp : A) (ta : A) (li : A) (sr : A) (hb : aH) (n : Nat) (k : Int32 → Int32 → Int32 → Int32 → Int32 → Int32 → Int32 → Int32 → Int32 → Int32 → Int32 → Int32 → MW → A → A → Out (MW × A × A) Unit) : Prop := ∀ (v1 : Int32) (v2 : Int32) (v3 : Int32) (v4 : Int32) (v5 : Int32) (v6 : Int32) (v7 : Int32) (v8 : Int32) (v9 : Int32) (v10 : Int32) (t0 : Int32) (t1 : Int32) (mw : MW) (mu : A) (co : A) (res : Out (MW × A × A) Unit), k v1 v2 v3 v4 v5 v6 v7 v8 v9 v10 t0 t1 mw mu co = res → res ≠ fno → AW (fun _ _ => True) mX11_writeTarga (rmD 3 0 0) 0 0 (P_X11_writeTarga mo mr ms mt dd wi hi gt sp ta li sr hb n res) (fun _ _ _ => False) 0 0 445 [(0, .ref 31), (1, .int v1), (2, .int v2), (3, .int v3), (4, .int v4), (5, .int v5), (6, .int v6), (7, .int v7), (8, .int v8), (9, .int v9), (10, .int v10)] [.int t0, .int t1] (HM mo mw mr ms mt mu dd wi hi gt sp ta li sr co hb) n
abbrev Q_X11_writeTarga_504 (mo : MO) (mr : MR) (ms : Nat) (mt : A) (dd : A) (wi : A) (hi : A) (gt : A) (sp : A) (ta : A) (li : A) (sr : A) (hb : aH) (n : Nat) (k : Int32 → Int32 → Int32 → Int32 → Int32 → Int32 → Int32 → Int32 → Int32 → Int32 → MW → A → A → Out (MW × A × A) Unit) : Prop := ∀ (v1 : Int32) (v2 : Int32) (v3 : Int32) (v4 : Int32) (v5 : Int32) (v6 : Int32) (v7 : Int32) (v8 : Int32) (v9 : Int32) (v10 : Int32) (mw : MW) (mu : A) (co : A) (res : Out (MW × A × A) Unit), k v1 v2 v3 v4 v5 v6 v7 v8 v9 v10 mw mu co = res → res ≠ fno → AW (fun _ _ => True) mX11_writeTarga (rmD 3 0 0) 0 0 (P_X11_writeTarga mo mr ms mt dd wi hi gt sp ta li sr hb n res) (fun _ _ _ => False) 0 0 504 [(0, .ref 31), (1, .int v1), (2, .int v2), (3, .int v3), (4, .int v4), (5, .int v5), (6, .int v6), (7, .int v7), (8, .int v8), (9, .int v9), (10, .int v10)] [] (HM mo mw mr ms mt mu dd wi hi gt sp ta li sr co hb) n
def F_X11_writeTarga_504 (dd : A) (wi : A) (hi : A) (k284 : Int32 → Int32 → Int32 → Int32 → Int32 → Int32 → MW → A → A → Out (MW × A × A) Unit) (k298 : Int32 → Int32 → Int32 → Int32 → Int32 → Int32 → Int32 → MW → A → A → Out (MW × A × A) Unit) (k432 : Int32 → Int32 → Int32 → Int32 → Int32 → Int32 → Int32 → Int32 → Int32 → Int32 → MW → A → A → Out (MW × A × A) Unit) (v1 : Int32) (v2 : Int32) (v3 : Int32) (v4 : Int32) (v5 : Int32) (v6 : Int32) (v7 : Int32) (v8 : Int32) (v9 : Int32) (v10 : Int32) (mw : MW) (mu : A) (co : A) : Out (MW × A × A) Unit := k432 v1 v2 v3 v4 v5 v6 v7 v8 v9 (v10 + 1) mw mu co
set_option maxHeartbeats 1000000 in
set_option maxRecDepth 100000 in
theorem b_X11_writeTarga_504 (mo : MO) (mr : MR) (ms : Nat) (mt : A) (dd : A) (wi : A) (hi : A) (gt : A) (sp : A) (ta : A) (li : A) (sr : A) (hb : aH) (n : Nat)  (k284 : Int32 → Int32 → Int32 → Int32 → Int32 → Int32 → MW → A → A → Out (MW × A × A) Unit) (hk284 : Q_X11_writeTarga_284 mo mr ms mt dd wi hi gt sp ta li sr hb n k284) (k298 : Int32 → Int32 → Int32 → Int32 → Int32 → Int32 → Int32 → MW → A → A → Out (MW × A × A) Unit) (hk298 : Q_X11_writeTarga_298 mo mr ms mt dd wi hi gt sp ta li sr hb n k298) (k432 : Int32 → Int32 → Int32 → Int32 → Int32 → Int32 → Int32 → Int32 → Int32 → Int32 → MW → A → A → Out (MW × A × A) Unit) (hk432 : Q_X11_writeTarga_432 mo mr ms mt dd wi hi gt sp ta li sr hb n k432) : Q_X11_writeTarga_504 mo mr ms mt dd wi hi gt sp ta li sr hb n (F_X11_writeTarga_504 dd wi hi k284 k298 k432) := by
  intro v1 v2 v3 v4 v5 v6 v7 v8 v9 v10 mw mu co res hE hF
  unfold F_X11_writeTarga_504 at hE
  refine aw_iinc (v := (v10 + 1)) (lv2 := [(10, _), (0, _), (1, _), (2, _), (3, _), (4, _), (5, _), (6, _), (7, _), (8, _), (9, _)]) dX11_writeTarga_504 rfl (incE (by decide)) (by decide) rfl ?_
  refine aw_goto (tgt := 432) dX11_writeTarga_507 (by decide) ?_
  exact aw_lv _ (List.forall_mem_cons.mpr ⟨rfl, (List.forall_mem_cons.mpr ⟨rfl, (List.forall_mem_cons.mpr ⟨rfl, (List.forall_mem_cons.mpr ⟨rfl, (List.forall_mem_cons.mpr ⟨rfl, (List.forall_mem_cons.mpr ⟨rfl, (List.forall_mem_cons.mpr ⟨rfl, (List.forall_mem_cons.mpr ⟨rfl, (List.forall_mem_cons.mpr ⟨rfl, (List.forall_mem_cons.mpr ⟨rfl, (List.forall_mem_cons.mpr ⟨rfl, fun _ h => absurd h List.not_mem_nil⟩)⟩)⟩)⟩)⟩)⟩)⟩)⟩)⟩)⟩)⟩) (hk432 v1 v2 v3 v4 v5 v6 v7 v8 v9 (v10 + 1) mw mu co _ hE hF)
def F_X11_writeTarga_445 (dd : A) (wi : A) (hi : A) (k284 : Int32 → Int32 → Int32 → Int32 → Int32 → Int32 → MW → A → A → Out (MW × A × A) Unit) (k298 : Int32 → Int32 → Int32 → Int32 → Int32 → Int32 → Int32 → MW → A → A → Out (MW × A × A) Unit) (k432 : Int32 → Int32 → Int32 → Int32 → Int32 → Int32 → Int32 → Int32 → Int32 → Int32 → MW → A → A → Out (MW × A × A) Unit) (v1 : Int32) (v2 : Int32) (v3 : Int32) (v4 : Int32) (v5 : Int32) (v6 : Int32) (v7 : Int32) (v8 : Int32) (v9 : Int32) (v10 : Int32) (t0 : Int32) (t1 : Int32) (mw : MW) (mu : A) (co : A) : Out (MW × A × A) Unit := if t0 ≤ t1 then (k298 v1 v2 v3 v4 v5 v6 (v7 + v8) mw mu co) else (fon (F_X11_at v1 (v7 + v10) v6 dd wi) (fun z457 s457 => if v4 = 0 then (if v5 = 0 then (fon (F_X11_putBack z457 v3 mw mu) (fun z501 s501 => F_X11_writeTarga_504 dd wi hi k284 k298 k432 v1 v2 v3 v4 v5 v6 v7 v8 v9 v10 s501.1 s501.2 co) (fun _ _ => fno)) else (fon (F_X11_put_ (z457 >>> ((8 : Int32) &&& 31)) mw mu) (fun z491 s491 => F_X11_writeTarga_504 dd wi hi k284 k298 k432 v1 v2 v3 v4 v5 v6 v7 v8 v9 v10 s491.1 s491.2 co) (fun _ _ => fno))) else (fon (F_X11_colourOf z457 mw co) (fun z471 s471 => fon (F_X11_put_ z471 mw mu) (fun z474 s474 => F_X11_writeTarga_504 dd wi hi k284 k298 k432 v1 v2 v3 v4 v5 v6 v7 v8 v9 v10 s474.1 s474.2 co) (fun _ _ => fno)) (fun _ _ => fno))) (fun _ _ => fno))
set_option maxHeartbeats 1000000 in
set_option maxRecDepth 100000 in
theorem b_X11_writeTarga_445 (mo : MO) (mr : MR) (ms : Nat) (mt : A) (dd : A) (wi : A) (hi : A) (gt : A) (sp : A) (ta : A) (li : A) (sr : A) (hb : aH) (n : Nat)  (k284 : Int32 → Int32 → Int32 → Int32 → Int32 → Int32 → MW → A → A → Out (MW × A × A) Unit) (hk284 : Q_X11_writeTarga_284 mo mr ms mt dd wi hi gt sp ta li sr hb n k284) (k298 : Int32 → Int32 → Int32 → Int32 → Int32 → Int32 → Int32 → MW → A → A → Out (MW × A × A) Unit) (hk298 : Q_X11_writeTarga_298 mo mr ms mt dd wi hi gt sp ta li sr hb n k298) (k432 : Int32 → Int32 → Int32 → Int32 → Int32 → Int32 → Int32 → Int32 → Int32 → Int32 → MW → A → A → Out (MW × A × A) Unit) (hk432 : Q_X11_writeTarga_432 mo mr ms mt dd wi hi gt sp ta li sr hb n k432) : Q_X11_writeTarga_445 mo mr ms mt dd wi hi gt sp ta li sr hb n (F_X11_writeTarga_445 dd wi hi k284 k298 k432) := by
  intro v1 v2 v3 v4 v5 v6 v7 v8 v9 v10 t0 t1 mw mu co res hE hF
  unfold F_X11_writeTarga_445 at hE
  refine aw_icmp_ge (tgt := 510) dX11_writeTarga_445 (by decide) (fun c445 => ?_) (fun c445 => ?_)
  · replace hE := fit hE c445
    refine aw_iload dX11_writeTarga_510 rfl ?_
    refine aw_iload dX11_writeTarga_512 rfl ?_
    refine aw_iadd dX11_writeTarga_514 ?_
    refine aw_istore (lv2 := [(7, _), (0, _), (1, _), (2, _), (3, _), (4, _), (5, _), (6, _), (8, _), (9, _), (10, _)]) dX11_writeTarga_515 (by decide) rfl ?_
    refine aw_goto (tgt := 298) dX11_writeTarga_517 (by decide) ?_
    exact aw_lv _ (List.forall_mem_cons.mpr ⟨rfl, (List.forall_mem_cons.mpr ⟨rfl, (List.forall_mem_cons.mpr ⟨rfl, (List.forall_mem_cons.mpr ⟨rfl, (List.forall_mem_cons.mpr ⟨rfl, (List.forall_mem_cons.mpr ⟨rfl, (List.forall_mem_cons.mpr ⟨rfl, (List.forall_mem_cons.mpr ⟨rfl, fun _ h => absurd h List.not_mem_nil⟩)⟩)⟩)⟩)⟩)⟩)⟩)⟩) (hk298 v1 v2 v3 v4 v5 v6 (v7 + v8) mw mu co _ hE hF)
  · replace hE := fif hE c445
    refine aw_aload_n dX11_writeTarga_448 rfl ?_
    refine aw_iload_n dX11_writeTarga_449 rfl ?_
    refine aw_iload dX11_writeTarga_450 rfl ?_
    refine aw_iload dX11_writeTarga_452 rfl ?_
    refine aw_iadd dX11_writeTarga_454 ?_
    refine aw_iload dX11_writeTarga_455 rfl ?_
    refine aw_callV dX11_writeTarga_457 at_mod cvX11_291 rfl (kF_X11_at mo mw mr ms mt mu dd wi hi gt sp ta li sr co hb _  v1 (v7 + v10) v6 (fon_ne hE hF)) rfl (Nat.le_of_ble_eq_true rfl) (by decide) (by decide) (by decide) (by decide) (fun _ _ _ hf => False.elim hf) (fun r457 h457 n457 hp457 => ?_)
    obtain ⟨z457, s457, e457, rfl, rfl, rfl⟩ := hp457
    replace hE := fon_ok e457 hE
    refine aw_istore (lv2 := [(11, _), (0, _), (1, _), (2, _), (3, _), (4, _), (5, _), (6, _), (7, _), (8, _), (9, _), (10, _)]) dX11_writeTarga_460 (by decide) rfl ?_
    refine aw_iload dX11_writeTarga_462 rfl ?_
    refine aw_if_eq (tgt := 480) dX11_writeTarga_464 (by decide) (fun c464 => ?_) (fun c464 => ?_)
    · replace hE := fit hE c464
      refine aw_iload dX11_writeTarga_480 rfl ?_
      refine aw_if_eq (tgt := 497) dX11_writeTarga_482 (by decide) (fun c482 => ?_) (fun c482 => ?_)
      · replace hE := fit hE c482
        refine aw_aload_n dX11_writeTarga_497 rfl ?_
        refine aw_iload dX11_writeTarga_498 rfl ?_
        refine aw_iload_n dX11_writeTarga_500 rfl ?_
        refine aw_callV dX11_writeTarga_501 at_mod cvX11_299 rfl (kF_X11_putBack mo mw mr ms mt mu dd wi hi gt sp ta li sr co hb _  z457 v3 (fon_ne hE hF)) rfl (Nat.le_of_ble_eq_true rfl) (by decide) (by decide) (by decide) (by decide) (fun _ _ _ hf => False.elim hf) (fun r501 h501 n501 hp501 => ?_)
        obtain ⟨z501, s501, e501, rfl, rfl, rfl⟩ := hp501
        replace hE := fon_ok e501 hE
        exact aw_lv _ (List.forall_mem_cons.mpr ⟨rfl, (List.forall_mem_cons.mpr ⟨rfl, (List.forall_mem_cons.mpr ⟨rfl, (List.forall_mem_cons.mpr ⟨rfl, (List.forall_mem_cons.mpr ⟨rfl, (List.forall_mem_cons.mpr ⟨rfl, (List.forall_mem_cons.mpr ⟨rfl, (List.forall_mem_cons.mpr ⟨rfl, (List.forall_mem_cons.mpr ⟨rfl, (List.forall_mem_cons.mpr ⟨rfl, (List.forall_mem_cons.mpr ⟨rfl, fun _ h => absurd h List.not_mem_nil⟩)⟩)⟩)⟩)⟩)⟩)⟩)⟩)⟩)⟩)⟩) (b_X11_writeTarga_504 mo mr ms mt dd wi hi gt sp ta li sr hb n  k284 hk284 k298 hk298 k432 hk432 v1 v2 v3 v4 v5 v6 v7 v8 v9 v10 s501.1 s501.2 co _ hE hF)
      · replace hE := fif hE c482
        refine aw_aload_n dX11_writeTarga_485 rfl ?_
        refine aw_iload dX11_writeTarga_486 rfl ?_
        refine aw_bipush (v := 8) dX11_writeTarga_488 (by decide) ?_
        refine aw_ishr dX11_writeTarga_490 ?_
        refine aw_callV dX11_writeTarga_491 at_mod cvX11_280 rfl (kF_X11_put_ mo mw mr ms mt mu dd wi hi gt sp ta li sr co hb _  (z457 >>> ((8 : Int32) &&& 31)) (fon_ne hE hF)) rfl (Nat.le_of_ble_eq_true rfl) (by decide) (by decide) (by decide) (by decide) (fun _ _ _ hf => False.elim hf) (fun r491 h491 n491 hp491 => ?_)
        obtain ⟨z491, s491, e491, rfl, rfl, rfl⟩ := hp491
        replace hE := fon_ok e491 hE
        refine aw_goto (tgt := 504) dX11_writeTarga_494 (by decide) ?_
        exact aw_lv _ (List.forall_mem_cons.mpr ⟨rfl, (List.forall_mem_cons.mpr ⟨rfl, (List.forall_mem_cons.mpr ⟨rfl, (List.forall_mem_cons.mpr ⟨rfl, (List.forall_mem_cons.mpr ⟨rfl, (List.forall_mem_cons.mpr ⟨rfl, (List.forall_mem_cons.mpr ⟨rfl, (List.forall_mem_cons.mpr ⟨rfl, (List.forall_mem_cons.mpr ⟨rfl, (List.forall_mem_cons.mpr ⟨rfl, (List.forall_mem_cons.mpr ⟨rfl, fun _ h => absurd h List.not_mem_nil⟩)⟩)⟩)⟩)⟩)⟩)⟩)⟩)⟩)⟩)⟩) (b_X11_writeTarga_504 mo mr ms mt dd wi hi gt sp ta li sr hb n  k284 hk284 k298 hk298 k432 hk432 v1 v2 v3 v4 v5 v6 v7 v8 v9 v10 s491.1 s491.2 co _ hE hF)
    · replace hE := fif hE c464
      refine aw_aload_n dX11_writeTarga_467 rfl ?_
      refine aw_aload_n dX11_writeTarga_468 rfl ?_
      refine aw_iload dX11_writeTarga_469 rfl ?_
      refine aw_callV dX11_writeTarga_471 at_mod cvX11_265 rfl (kF_X11_colourOf mo mw mr ms mt mu dd wi hi gt sp ta li sr co hb _  z457 (fon_ne hE hF)) rfl (Nat.le_of_ble_eq_true rfl) (by decide) (by decide) (by decide) (by decide) (fun _ _ _ hf => False.elim hf) (fun r471 h471 n471 hp471 => ?_)
      obtain ⟨z471, s471, e471, rfl, rfl, rfl⟩ := hp471
      replace hE := fon_ok e471 hE
      refine aw_callV dX11_writeTarga_474 at_mod cvX11_280 rfl (kF_X11_put_ mo mw mr ms mt mu dd wi hi gt sp ta li sr co hb _  z471 (fon_ne hE hF)) rfl (Nat.le_of_ble_eq_true rfl) (by decide) (by decide) (by decide) (by decide) (fun _ _ _ hf => False.elim hf) (fun r474 h474 n474 hp474 => ?_)
      obtain ⟨z474, s474, e474, rfl, rfl, rfl⟩ := hp474
      replace hE := fon_ok e474 hE
      refine aw_goto (tgt := 504) dX11_writeTarga_477 (by decide) ?_
      exact aw_lv _ (List.forall_mem_cons.mpr ⟨rfl, (List.forall_mem_cons.mpr ⟨rfl, (List.forall_mem_cons.mpr ⟨rfl, (List.forall_mem_cons.mpr ⟨rfl, (List.forall_mem_cons.mpr ⟨rfl, (List.forall_mem_cons.mpr ⟨rfl, (List.forall_mem_cons.mpr ⟨rfl, (List.forall_mem_cons.mpr ⟨rfl, (List.forall_mem_cons.mpr ⟨rfl, (List.forall_mem_cons.mpr ⟨rfl, (List.forall_mem_cons.mpr ⟨rfl, fun _ h => absurd h List.not_mem_nil⟩)⟩)⟩)⟩)⟩)⟩)⟩)⟩)⟩)⟩)⟩) (b_X11_writeTarga_504 mo mr ms mt dd wi hi gt sp ta li sr hb n  k284 hk284 k298 hk298 k432 hk432 v1 v2 v3 v4 v5 v6 v7 v8 v9 v10 s474.1 s474.2 co _ hE hF)
def F_X11_writeTarga_432 (dd : A) (wi : A) (hi : A) (k284 : Int32 → Int32 → Int32 → Int32 → Int32 → Int32 → MW → A → A → Out (MW × A × A) Unit) (k298 : Int32 → Int32 → Int32 → Int32 → Int32 → Int32 → Int32 → MW → A → A → Out (MW × A × A) Unit) (k432 : Int32 → Int32 → Int32 → Int32 → Int32 → Int32 → Int32 → Int32 → Int32 → Int32 → MW → A → A → Out (MW × A × A) Unit) (v1 : Int32) (v2 : Int32) (v3 : Int32) (v4 : Int32) (v5 : Int32) (v6 : Int32) (v7 : Int32) (v8 : Int32) (v9 : Int32) (v10 : Int32) (mw : MW) (mu : A) (co : A) : Out (MW × A × A) Unit := if v9 = 0 then (F_X11_writeTarga_445 dd wi hi k284 k298 k432 v1 v2 v3 v4 v5 v6 v7 v8 v9 v10 v8 v10 mw mu co) else (F_X11_writeTarga_445 dd wi hi k284 k298 k432 v1 v2 v3 v4 v5 v6 v7 v8 v9 v10 (1 : Int32) v10 mw mu co)
set_option maxHeartbeats 1000000 in
set_option maxRecDepth 100000 in
theorem b_X11_writeTarga_432 (mo : MO) (mr : MR) (ms : Nat) (mt : A) (dd : A) (wi : A) (hi : A) (gt : A) (sp : A) (ta : A) (li : A) (sr : A) (hb : aH) (n : Nat)  (k284 : Int32 → Int32 → Int32 → Int32 → Int32 → Int32 → MW → A → A → Out (MW × A × A) Unit) (hk284 : Q_X11_writeTarga_284 mo mr ms mt dd wi hi gt sp ta li sr hb n k284) (k298 : Int32 → Int32 → Int32 → Int32 → Int32 → Int32 → Int32 → MW → A → A → Out (MW × A × A) Unit) (hk298 : Q_X11_writeTarga_298 mo mr ms mt dd wi hi gt sp ta li sr hb n k298) (k432 : Int32 → Int32 → Int32 → Int32 → Int32 → Int32 → Int32 → Int32 → Int32 → Int32 → MW → A → A → Out (MW × A × A) Unit) (hk432 : Q_X11_writeTarga_432 mo mr ms mt dd wi hi gt sp ta li sr hb n k432) : Q_X11_writeTarga_432 mo mr ms mt dd wi hi gt sp ta li sr hb n (F_X11_writeTarga_432 dd wi hi k284 k298 k432) := by
  intro v1 v2 v3 v4 v5 v6 v7 v8 v9 v10 mw mu co res hE hF
  unfold F_X11_writeTarga_432 at hE
  refine aw_iload dX11_writeTarga_432 rfl ?_
  refine aw_iload dX11_writeTarga_434 rfl ?_
  refine aw_if_eq (tgt := 443) dX11_writeTarga_436 (by decide) (fun c436 => ?_) (fun c436 => ?_)
  · replace hE := fit hE c436
    refine aw_iload dX11_writeTarga_443 rfl ?_
    exact aw_lv _ (List.forall_mem_cons.mpr ⟨rfl, (List.forall_mem_cons.mpr ⟨rfl, (List.forall_mem_cons.mpr ⟨rfl, (List.forall_mem_cons.mpr ⟨rfl, (List.forall_mem_cons.mpr ⟨rfl, (List.forall_mem_cons.mpr ⟨rfl, (List.forall_mem_cons.mpr ⟨rfl, (List.forall_mem_cons.mpr ⟨rfl, (List.forall_mem_cons.mpr ⟨rfl, (List.forall_mem_cons.mpr ⟨rfl, (List.forall_mem_cons.mpr ⟨rfl, fun _ h => absurd h List.not_mem_nil⟩)⟩)⟩)⟩)⟩)⟩)⟩)⟩)⟩)⟩)⟩) (b_X11_writeTarga_445 mo mr ms mt dd wi hi gt sp ta li sr hb n  k284 hk284 k298 hk298 k432 hk432 v1 v2 v3 v4 v5 v6 v7 v8 v9 v10 v8 v10 mw mu co _ hE hF)
  · replace hE := fif hE c436
    refine aw_iconst (v := 1) dX11_writeTarga_439 (by decide) ?_
    refine aw_goto (tgt := 445) dX11_writeTarga_440 (by decide) ?_
    exact aw_lv _ (List.forall_mem_cons.mpr ⟨rfl, (List.forall_mem_cons.mpr ⟨rfl, (List.forall_mem_cons.mpr ⟨rfl, (List.forall_mem_cons.mpr ⟨rfl, (List.forall_mem_cons.mpr ⟨rfl, (List.forall_mem_cons.mpr ⟨rfl, (List.forall_mem_cons.mpr ⟨rfl, (List.forall_mem_cons.mpr ⟨rfl, (List.forall_mem_cons.mpr ⟨rfl, (List.forall_mem_cons.mpr ⟨rfl, (List.forall_mem_cons.mpr ⟨rfl, fun _ h => absurd h List.not_mem_nil⟩)⟩)⟩)⟩)⟩)⟩)⟩)⟩)⟩)⟩)⟩) (b_X11_writeTarga_445 mo mr ms mt dd wi hi gt sp ta li sr hb n  k284 hk284 k298 hk298 k432 hk432 v1 v2 v3 v4 v5 v6 v7 v8 v9 v10 (1 : Int32) v10 mw mu co _ hE hF)
def F_X11_writeTarga_429 (dd : A) (wi : A) (hi : A) (k284 : Int32 → Int32 → Int32 → Int32 → Int32 → Int32 → MW → A → A → Out (MW × A × A) Unit) (k298 : Int32 → Int32 → Int32 → Int32 → Int32 → Int32 → Int32 → MW → A → A → Out (MW × A × A) Unit) (v1 : Int32) (v2 : Int32) (v3 : Int32) (v4 : Int32) (v5 : Int32) (v6 : Int32) (v7 : Int32) (v8 : Int32) (v9 : Int32) (mw : MW) (mu : A) (co : A) : Out (MW × A × A) Unit := lp (fun _ _ _ _ _ _ _ _ _ _ _ _ _ => fno) (F_X11_writeTarga_432 dd wi hi k284 k298) FU v1 v2 v3 v4 v5 v6 v7 v8 v9 (0 : Int32) mw mu co
set_option maxHeartbeats 1000000 in
set_option maxRecDepth 100000 in
theorem b_X11_writeTarga_429 (mo : MO) (mr : MR) (ms : Nat) (mt : A) (dd : A) (wi : A) (hi : A) (gt : A) (sp : A) (ta : A) (li : A) (sr : A) (hb : aH) (n : Nat)  (k284 : Int32 → Int32 → Int32 → Int32 → Int32 → Int32 → MW → A → A → Out (MW × A × A) Unit) (hk284 : Q_X11_writeTarga_284 mo mr ms mt dd wi hi gt sp ta li sr hb n k284) (k298 : Int32 → Int32 → Int32 → Int32 → Int32 → Int32 → Int32 → MW → A → A → Out (MW × A × A) Unit) (hk298 : Q_X11_writeTarga_298 mo mr ms mt dd wi hi gt sp ta li sr hb n k298) : Q_X11_writeTarga_429 mo mr ms mt dd wi hi gt sp ta li sr hb n (F_X11_writeTarga_429 dd wi hi k284 k298) := by
  intro v1 v2 v3 v4 v5 v6 v7 v8 v9 mw mu co res hE hF
  unfold F_X11_writeTarga_429 at hE
  refine aw_iconst (v := 0) dX11_writeTarga_429 (by decide) ?_
  refine aw_istore (lv2 := [(10, _), (0, _), (1, _), (2, _), (3, _), (4, _), (5, _), (6, _), (7, _), (8, _), (9, _)]) dX11_writeTarga_430 (by decide) rfl ?_
  exact aw_lv _ (List.forall_mem_cons.mpr ⟨rfl, (List.forall_mem_cons.mpr ⟨rfl, (List.forall_mem_cons.mpr ⟨rfl, (List.forall_mem_cons.mpr ⟨rfl, (List.forall_mem_cons.mpr ⟨rfl, (List.forall_mem_cons.mpr ⟨rfl, (List.forall_mem_cons.mpr ⟨rfl, (List.forall_mem_cons.mpr ⟨rfl, (List.forall_mem_cons.mpr ⟨rfl, (List.forall_mem_cons.mpr ⟨rfl, (List.forall_mem_cons.mpr ⟨rfl, fun _ h => absurd h List.not_mem_nil⟩)⟩)⟩)⟩)⟩)⟩)⟩)⟩)⟩)⟩)⟩) (lp_ind (Q_X11_writeTarga_432 mo mr ms mt dd wi hi gt sp ta li sr hb n) (fun _ _ _ _ _ _ _ _ _ _ _ _ _ res hq hF => (hF hq.symm).elim) (fun k hk => b_X11_writeTarga_432 mo mr ms mt dd wi hi gt sp ta li sr hb n  k284 hk284 k298 hk298 k hk) FU v1 v2 v3 v4 v5 v6 v7 v8 v9 (0 : Int32) mw mu co _ hE hF)
def F_X11_writeTarga_426 (dd : A) (wi : A) (hi : A) (k284 : Int32 → Int32 → Int32 → Int32 → Int32 → Int32 → MW → A → A → Out (MW × A × A) Unit) (k298 : Int32 → Int32 → Int32 → Int32 → Int32 → Int32 → Int32 → MW → A → A → Out (MW × A × A) Unit) (v1 : Int32) (v2 : Int32) (v3 : Int32) (v4 : Int32) (v5 : Int32) (v6 : Int32) (v7 : Int32) (v8 : Int32) (v9 : Int32) (t0 : Int32) (mw : MW) (mu : A) (co : A) : Out (MW × A × A) Unit := fon (F_X11_put_ t0 mw mu) (fun z426 s426 => F_X11_writeTarga_429 dd wi hi k284 k298 v1 v2 v3 v4 v5 v6 v7 v8 v9 s426.1 s426.2 co) (fun _ _ => fno)
set_option maxHeartbeats 1000000 in
set_option maxRecDepth 100000 in
theorem b_X11_writeTarga_426 (mo : MO) (mr : MR) (ms : Nat) (mt : A) (dd : A) (wi : A) (hi : A) (gt : A) (sp : A) (ta : A) (li : A) (sr : A) (hb : aH) (n : Nat)  (k284 : Int32 → Int32 → Int32 → Int32 → Int32 → Int32 → MW → A → A → Out (MW × A × A) Unit) (hk284 : Q_X11_writeTarga_284 mo mr ms mt dd wi hi gt sp ta li sr hb n k284) (k298 : Int32 → Int32 → Int32 → Int32 → Int32 → Int32 → Int32 → MW → A → A → Out (MW × A × A) Unit) (hk298 : Q_X11_writeTarga_298 mo mr ms mt dd wi hi gt sp ta li sr hb n k298) : Q_X11_writeTarga_426 mo mr ms mt dd wi hi gt sp ta li sr hb n (F_X11_writeTarga_426 dd wi hi k284 k298) := by
  intro v1 v2 v3 v4 v5 v6 v7 v8 v9 t0 mw mu co res hE hF
  unfold F_X11_writeTarga_426 at hE
  refine aw_callV dX11_writeTarga_426 at_mod cvX11_280 rfl (kF_X11_put_ mo mw mr ms mt mu dd wi hi gt sp ta li sr co hb _  t0 (fon_ne hE hF)) rfl (Nat.le_of_ble_eq_true rfl) (by decide) (by decide) (by decide) (by decide) (fun _ _ _ hf => False.elim hf) (fun r426 h426 n426 hp426 => ?_)
  obtain ⟨z426, s426, e426, rfl, rfl, rfl⟩ := hp426
  replace hE := fon_ok e426 hE
  exact aw_lv _ (List.forall_mem_cons.mpr ⟨rfl, (List.forall_mem_cons.mpr ⟨rfl, (List.forall_mem_cons.mpr ⟨rfl, (List.forall_mem_cons.mpr ⟨rfl, (List.forall_mem_cons.mpr ⟨rfl, (List.forall_mem_cons.mpr ⟨rfl, (List.forall_mem_cons.mpr ⟨rfl, (List.forall_mem_cons.mpr ⟨rfl, (List.forall_mem_cons.mpr ⟨rfl, (List.forall_mem_cons.mpr ⟨rfl, fun _ h => absurd h List.not_mem_nil⟩)⟩)⟩)⟩)⟩)⟩)⟩)⟩)⟩)⟩) (b_X11_writeTarga_429 mo mr ms mt dd wi hi gt sp ta li sr hb n  k284 hk284 k298 hk298 v1 v2 v3 v4 v5 v6 v7 v8 v9 s426.1 s426.2 co _ hE hF)
def F_X11_writeTarga_408 (dd : A) (wi : A) (hi : A) (k284 : Int32 → Int32 → Int32 → Int32 → Int32 → Int32 → MW → A → A → Out (MW × A × A) Unit) (k298 : Int32 → Int32 → Int32 → Int32 → Int32 → Int32 → Int32 → MW → A → A → Out (MW × A × A) Unit) (v1 : Int32) (v2 : Int32) (v3 : Int32) (v4 : Int32) (v5 : Int32) (v6 : Int32) (v7 : Int32) (v8 : Int32) (v9 : Int32) (mw : MW) (mu : A) (co : A) : Out (MW × A × A) Unit := if v9 = 0 then (F_X11_writeTarga_426 dd wi hi k284 k298 v1 v2 v3 v4 v5 v6 v7 v8 v9 (v8 - 1) mw mu co) else (F_X11_writeTarga_426 dd wi hi k284 k298 v1 v2 v3 v4 v5 v6 v7 v8 v9 (127 + v8) mw mu co)
set_option maxHeartbeats 1000000 in
set_option maxRecDepth 100000 in
theorem b_X11_writeTarga_408 (mo : MO) (mr : MR) (ms : Nat) (mt : A) (dd : A) (wi : A) (hi : A) (gt : A) (sp : A) (ta : A) (li : A) (sr : A) (hb : aH) (n : Nat)  (k284 : Int32 → Int32 → Int32 → Int32 → Int32 → Int32 → MW → A → A → Out (MW × A × A) Unit) (hk284 : Q_X11_writeTarga_284 mo mr ms mt dd wi hi gt sp ta li sr hb n k284) (k298 : Int32 → Int32 → Int32 → Int32 → Int32 → Int32 → Int32 → MW → A → A → Out (MW × A × A) Unit) (hk298 : Q_X11_writeTarga_298 mo mr ms mt dd wi hi gt sp ta li sr hb n k298) : Q_X11_writeTarga_408 mo mr ms mt dd wi hi gt sp ta li sr hb n (F_X11_writeTarga_408 dd wi hi k284 k298) := by
  intro v1 v2 v3 v4 v5 v6 v7 v8 v9 mw mu co res hE hF
  unfold F_X11_writeTarga_408 at hE
  refine aw_aload_n dX11_writeTarga_408 rfl ?_
  refine aw_iload dX11_writeTarga_409 rfl ?_
  refine aw_if_eq (tgt := 422) dX11_writeTarga_411 (by decide) (fun c411 => ?_) (fun c411 => ?_)
  · replace hE := fit hE c411
    refine aw_iload dX11_writeTarga_422 rfl ?_
    refine aw_iconst (v := 1) dX11_writeTarga_424 (by decide) ?_
    refine aw_isub dX11_writeTarga_425 ?_
    exact aw_lv _ (List.forall_mem_cons.mpr ⟨rfl, (List.forall_mem_cons.mpr ⟨rfl, (List.forall_mem_cons.mpr ⟨rfl, (List.forall_mem_cons.mpr ⟨rfl, (List.forall_mem_cons.mpr ⟨rfl, (List.forall_mem_cons.mpr ⟨rfl, (List.forall_mem_cons.mpr ⟨rfl, (List.forall_mem_cons.mpr ⟨rfl, (List.forall_mem_cons.mpr ⟨rfl, (List.forall_mem_cons.mpr ⟨rfl, fun _ h => absurd h List.not_mem_nil⟩)⟩)⟩)⟩)⟩)⟩)⟩)⟩)⟩)⟩) (b_X11_writeTarga_426 mo mr ms mt dd wi hi gt sp ta li sr hb n  k284 hk284 k298 hk298 v1 v2 v3 v4 v5 v6 v7 v8 v9 (v8 - 1) mw mu co _ hE hF)
  · replace hE := fif hE c411
    refine aw_bipush (v := 127) dX11_writeTarga_414 (by decide) ?_
    refine aw_iload dX11_writeTarga_416 rfl ?_
    refine aw_iadd dX11_writeTarga_418 ?_
    refine aw_goto (tgt := 426) dX11_writeTarga_419 (by decide) ?_
    exact aw_lv _ (List.forall_mem_cons.mpr ⟨rfl, (List.forall_mem_cons.mpr ⟨rfl, (List.forall_mem_cons.mpr ⟨rfl, (List.forall_mem_cons.mpr ⟨rfl, (List.forall_mem_cons.mpr ⟨rfl, (List.forall_mem_cons.mpr ⟨rfl, (List.forall_mem_cons.mpr ⟨rfl, (List.forall_mem_cons.mpr ⟨rfl, (List.forall_mem_cons.mpr ⟨rfl, (List.forall_mem_cons.mpr ⟨rfl, fun _ h => absurd h List.not_mem_nil⟩)⟩)⟩)⟩)⟩)⟩)⟩)⟩)⟩)⟩) (b_X11_writeTarga_426 mo mr ms mt dd wi hi gt sp ta li sr hb n  k284 hk284 k298 hk298 v1 v2 v3 v4 v5 v6 v7 v8 v9 (127 + v8) mw mu co _ hE hF)
def F_X11_writeTarga_402 (dd : A) (wi : A) (hi : A) (k284 : Int32 → Int32 → Int32 → Int32 → Int32 → Int32 → MW → A → A → Out (MW × A × A) Unit) (k298 : Int32 → Int32 → Int32 → Int32 → Int32 → Int32 → Int32 → MW → A → A → Out (MW × A × A) Unit) (k333 : Int32 → Int32 → Int32 → Int32 → Int32 → Int32 → Int32 → Int32 → Int32 → MW → A → A → Out (MW × A × A) Unit) (v1 : Int32) (v2 : Int32) (v3 : Int32) (v4 : Int32) (v5 : Int32) (v6 : Int32) (v7 : Int32) (v8 : Int32) (v9 : Int32) (mw : MW) (mu : A) (co : A) : Out (MW × A × A) Unit := k333 v1 v2 v3 v4 v5 v6 v7 (v8 + 1) v9 mw mu co
set_option maxHeartbeats 1000000 in
set_option maxRecDepth 100000 in
theorem b_X11_writeTarga_402 (mo : MO) (mr : MR) (ms : Nat) (mt : A) (dd : A) (wi : A) (hi : A) (gt : A) (sp : A) (ta : A) (li : A) (sr : A) (hb : aH) (n : Nat)  (k284 : Int32 → Int32 → Int32 → Int32 → Int32 → Int32 → MW → A → A → Out (MW × A × A) Unit) (hk284 : Q_X11_writeTarga_284 mo mr ms mt dd wi hi gt sp ta li sr hb n k284) (k298 : Int32 → Int32 → Int32 → Int32 → Int32 → Int32 → Int32 → MW → A → A → Out (MW × A × A) Unit) (hk298 : Q_X11_writeTarga_298 mo mr ms mt dd wi hi gt sp ta li sr hb n k298) (k333 : Int32 → Int32 → Int32 → Int32 → Int32 → Int32 → Int32 → Int32 → Int32 → MW → A → A → Out (MW × A × A) Unit) (hk333 : Q_X11_writeTarga_333 mo mr ms mt dd wi hi gt sp ta li sr hb n k333) : Q_X11_writeTarga_402 mo mr ms mt dd wi hi gt sp ta li sr hb n (F_X11_writeTarga_402 dd wi hi k284 k298 k333) := by
  intro v1 v2 v3 v4 v5 v6 v7 v8 v9 mw mu co res hE hF
  unfold F_X11_writeTarga_402 at hE
  refine aw_iinc (v := (v8 + 1)) (lv2 := [(8, _), (0, _), (1, _), (2, _), (3, _), (4, _), (5, _), (6, _), (7, _), (9, _)]) dX11_writeTarga_402 rfl (incE (by decide)) (by decide) rfl ?_
  refine aw_goto (tgt := 333) dX11_writeTarga_405 (by decide) ?_
  exact aw_lv _ (List.forall_mem_cons.mpr ⟨rfl, (List.forall_mem_cons.mpr ⟨rfl, (List.forall_mem_cons.mpr ⟨rfl, (List.forall_mem_cons.mpr ⟨rfl, (List.forall_mem_cons.mpr ⟨rfl, (List.forall_mem_cons.mpr ⟨rfl, (List.forall_mem_cons.mpr ⟨rfl, (List.forall_mem_cons.mpr ⟨rfl, (List.forall_mem_cons.mpr ⟨rfl, (List.forall_mem_cons.mpr ⟨rfl, fun _ h => absurd h List.not_mem_nil⟩)⟩)⟩)⟩)⟩)⟩)⟩)⟩)⟩)⟩) (hk333 v1 v2 v3 v4 v5 v6 v7 (v8 + 1) v9 mw mu co _ hE hF)
def F_X11_writeTarga_333 (dd : A) (wi : A) (hi : A) (k284 : Int32 → Int32 → Int32 → Int32 → Int32 → Int32 → MW → A → A → Out (MW × A × A) Unit) (k298 : Int32 → Int32 → Int32 → Int32 → Int32 → Int32 → Int32 → MW → A → A → Out (MW × A × A) Unit) (k333 : Int32 → Int32 → Int32 → Int32 → Int32 → Int32 → Int32 → Int32 → Int32 → MW → A → A → Out (MW × A × A) Unit) (v1 : Int32) (v2 : Int32) (v3 : Int32) (v4 : Int32) (v5 : Int32) (v6 : Int32) (v7 : Int32) (v8 : Int32) (v9 : Int32) (mw : MW) (mu : A) (co : A) : Out (MW × A × A) Unit := if 128 ≤ v8 then (F_X11_writeTarga_408 dd wi hi k284 k298 v1 v2 v3 v4 v5 v6 v7 v8 v9 mw mu co) else (if inb v1 4 then (if (wi (Int32.toNatClampNeg v1)) ≤ (v7 + v8) then (F_X11_writeTarga_408 dd wi hi k284 k298 v1 v2 v3 v4 v5 v6 v7 v8 v9 mw mu co) else (if v9 = 0 then (fon (F_X11_isLike v1 (v7 + v8) v6 dd wi) (fun z396 s396 => if z396 = 0 then (F_X11_writeTarga_402 dd wi hi k284 k298 k333 v1 v2 v3 v4 v5 v6 v7 v8 v9 mw mu co) else (F_X11_writeTarga_408 dd wi hi k284 k298 v1 v2 v3 v4 v5 v6 v7 v8 v9 mw mu co)) (fun _ _ => fno)) else (fon (F_X11_at v1 (v7 + v8) v6 dd wi) (fun z369 s369 => fon (F_X11_at v1 v7 v6 dd wi) (fun z378 s378 => if z369 = z378 then (F_X11_writeTarga_402 dd wi hi k284 k298 k333 v1 v2 v3 v4 v5 v6 v7 v8 v9 mw mu co) else (F_X11_writeTarga_408 dd wi hi k284 k298 v1 v2 v3 v4 v5 v6 v7 v8 v9 mw mu co)) (fun _ _ => fno)) (fun _ _ => fno)))) else fno)
set_option maxHeartbeats 1000000 in
set_option maxRecDepth 100000 in
theorem b_X11_writeTarga_333 (mo : MO) (mr : MR) (ms : Nat) (mt : A) (dd : A) (wi : A) (hi : A) (gt : A) (sp : A) (ta : A) (li : A) (sr : A) (hb : aH) (n : Nat)  (k284 : Int32 → Int32 → Int32 → Int32 → Int32 → Int32 → MW → A → A → Out (MW × A × A) Unit) (hk284 : Q_X11_writeTarga_284 mo mr ms mt dd wi hi gt sp ta li sr hb n k284) (k298 : Int32 → Int32 → Int32 → Int32 → Int32 → Int32 → Int32 → MW → A → A → Out (MW × A × A) Unit) (hk298 : Q_X11_writeTarga_298 mo mr ms mt dd wi hi gt sp ta li sr hb n k298) (k333 : Int32 → Int32 → Int32 → Int32 → Int32 → Int32 → Int32 → Int32 → Int32 → MW → A → A → Out (MW × A × A) Unit) (hk333 : Q_X11_writeTarga_333 mo mr ms mt dd wi hi gt sp ta li sr hb n k333) : Q_X11_writeTarga_333 mo mr ms mt dd wi hi gt sp ta li sr hb n (F_X11_writeTarga_333 dd wi hi k284 k298 k333) := by
  intro v1 v2 v3 v4 v5 v6 v7 v8 v9 mw mu co res hE hF
  unfold F_X11_writeTarga_333 at hE
  refine aw_iload dX11_writeTarga_333 rfl ?_
  refine aw_sipush (v := 128) dX11_writeTarga_335 (by decide) ?_
  refine aw_icmp_ge (tgt := 408) dX11_writeTarga_338 (by decide) (fun c338 => ?_) (fun c338 => ?_)
  · replace hE := fit hE c338
    exact aw_lv _ (List.forall_mem_cons.mpr ⟨rfl, (List.forall_mem_cons.mpr ⟨rfl, (List.forall_mem_cons.mpr ⟨rfl, (List.forall_mem_cons.mpr ⟨rfl, (List.forall_mem_cons.mpr ⟨rfl, (List.forall_mem_cons.mpr ⟨rfl, (List.forall_mem_cons.mpr ⟨rfl, (List.forall_mem_cons.mpr ⟨rfl, (List.forall_mem_cons.mpr ⟨rfl, (List.forall_mem_cons.mpr ⟨rfl, fun _ h => absurd h List.not_mem_nil⟩)⟩)⟩)⟩)⟩)⟩)⟩)⟩)⟩)⟩) (b_X11_writeTarga_408 mo mr ms mt dd wi hi gt sp ta li sr hb n  k284 hk284 k298 hk298 v1 v2 v3 v4 v5 v6 v7 v8 v9 mw mu co _ hE hF)
  · replace hE := fif hE c338
    refine aw_iload dX11_writeTarga_341 rfl ?_
    refine aw_iload dX11_writeTarga_343 rfl ?_
    refine aw_iadd dX11_writeTarga_345 ?_
    refine aw_aload_n dX11_writeTarga_346 rfl ?_
    refine aw_getf (v := .ref 35) dX11_writeTarga_347 flX11_21_10 at_mod rfl ?_
    refine aw_iload_n dX11_writeTarga_350 rfl ?_
    obtain ⟨g351, hE⟩ := fgd hE hF
    refine aw_iald (f := wi) dX11_writeTarga_351 at_mwide (vp_in_iff.mpr g351) ?_
    refine aw_icmp_ge (tgt := 408) dX11_writeTarga_352 (by decide) (fun c352 => ?_) (fun c352 => ?_)
    · replace hE := fit hE c352
      exact aw_lv _ (List.forall_mem_cons.mpr ⟨rfl, (List.forall_mem_cons.mpr ⟨rfl, (List.forall_mem_cons.mpr ⟨rfl, (List.forall_mem_cons.mpr ⟨rfl, (List.forall_mem_cons.mpr ⟨rfl, (List.forall_mem_cons.mpr ⟨rfl, (List.forall_mem_cons.mpr ⟨rfl, (List.forall_mem_cons.mpr ⟨rfl, (List.forall_mem_cons.mpr ⟨rfl, (List.forall_mem_cons.mpr ⟨rfl, fun _ h => absurd h List.not_mem_nil⟩)⟩)⟩)⟩)⟩)⟩)⟩)⟩)⟩)⟩) (b_X11_writeTarga_408 mo mr ms mt dd wi hi gt sp ta li sr hb n  k284 hk284 k298 hk298 v1 v2 v3 v4 v5 v6 v7 v8 v9 mw mu co _ hE hF)
    · replace hE := fif hE c352
      refine aw_iload dX11_writeTarga_355 rfl ?_
      refine aw_if_eq (tgt := 387) dX11_writeTarga_357 (by decide) (fun c357 => ?_) (fun c357 => ?_)
      · replace hE := fit hE c357
        refine aw_aload_n dX11_writeTarga_387 rfl ?_
        refine aw_iload_n dX11_writeTarga_388 rfl ?_
        refine aw_iload dX11_writeTarga_389 rfl ?_
        refine aw_iload dX11_writeTarga_391 rfl ?_
        refine aw_iadd dX11_writeTarga_393 ?_
        refine aw_iload dX11_writeTarga_394 rfl ?_
        refine aw_callV dX11_writeTarga_396 at_mod cvX11_305 rfl (kF_X11_isLike mo mw mr ms mt mu dd wi hi gt sp ta li sr co hb _  v1 (v7 + v8) v6 (fon_ne hE hF)) rfl (Nat.le_of_ble_eq_true rfl) (by decide) (by decide) (by decide) (by decide) (fun _ _ _ hf => False.elim hf) (fun r396 h396 n396 hp396 => ?_)
        obtain ⟨z396, s396, e396, rfl, rfl, rfl⟩ := hp396
        replace hE := fon_ok e396 hE
        refine aw_if_ne (tgt := 408) dX11_writeTarga_399 (by decide) (fun c399 => ?_) (fun c399 => ?_)
        · replace hE := fif hE c399
          exact aw_lv _ (List.forall_mem_cons.mpr ⟨rfl, (List.forall_mem_cons.mpr ⟨rfl, (List.forall_mem_cons.mpr ⟨rfl, (List.forall_mem_cons.mpr ⟨rfl, (List.forall_mem_cons.mpr ⟨rfl, (List.forall_mem_cons.mpr ⟨rfl, (List.forall_mem_cons.mpr ⟨rfl, (List.forall_mem_cons.mpr ⟨rfl, (List.forall_mem_cons.mpr ⟨rfl, (List.forall_mem_cons.mpr ⟨rfl, fun _ h => absurd h List.not_mem_nil⟩)⟩)⟩)⟩)⟩)⟩)⟩)⟩)⟩)⟩) (b_X11_writeTarga_408 mo mr ms mt dd wi hi gt sp ta li sr hb n  k284 hk284 k298 hk298 v1 v2 v3 v4 v5 v6 v7 v8 v9 mw mu co _ hE hF)
        · replace hE := fit hE c399
          exact aw_lv _ (List.forall_mem_cons.mpr ⟨rfl, (List.forall_mem_cons.mpr ⟨rfl, (List.forall_mem_cons.mpr ⟨rfl, (List.forall_mem_cons.mpr ⟨rfl, (List.forall_mem_cons.mpr ⟨rfl, (List.forall_mem_cons.mpr ⟨rfl, (List.forall_mem_cons.mpr ⟨rfl, (List.forall_mem_cons.mpr ⟨rfl, (List.forall_mem_cons.mpr ⟨rfl, (List.forall_mem_cons.mpr ⟨rfl, fun _ h => absurd h List.not_mem_nil⟩)⟩)⟩)⟩)⟩)⟩)⟩)⟩)⟩)⟩) (b_X11_writeTarga_402 mo mr ms mt dd wi hi gt sp ta li sr hb n  k284 hk284 k298 hk298 k333 hk333 v1 v2 v3 v4 v5 v6 v7 v8 v9 mw mu co _ hE hF)
      · replace hE := fif hE c357
        refine aw_aload_n dX11_writeTarga_360 rfl ?_
        refine aw_iload_n dX11_writeTarga_361 rfl ?_
        refine aw_iload dX11_writeTarga_362 rfl ?_
        refine aw_iload dX11_writeTarga_364 rfl ?_
        refine aw_iadd dX11_writeTarga_366 ?_
        refine aw_iload dX11_writeTarga_367 rfl ?_
        refine aw_callV dX11_writeTarga_369 at_mod cvX11_291 rfl (kF_X11_at mo mw mr ms mt mu dd wi hi gt sp ta li sr co hb _  v1 (v7 + v8) v6 (fon_ne hE hF)) rfl (Nat.le_of_ble_eq_true rfl) (by decide) (by decide) (by decide) (by decide) (fun _ _ _ hf => False.elim hf) (fun r369 h369 n369 hp369 => ?_)
        obtain ⟨z369, s369, e369, rfl, rfl, rfl⟩ := hp369
        replace hE := fon_ok e369 hE
        refine aw_aload_n dX11_writeTarga_372 rfl ?_
        refine aw_iload_n dX11_writeTarga_373 rfl ?_
        refine aw_iload dX11_writeTarga_374 rfl ?_
        refine aw_iload dX11_writeTarga_376 rfl ?_
        refine aw_callV dX11_writeTarga_378 at_mod cvX11_291 rfl (kF_X11_at mo mw mr ms mt mu dd wi hi gt sp ta li sr co hb _  v1 v7 v6 (fon_ne hE hF)) rfl (Nat.le_of_ble_eq_true rfl) (by decide) (by decide) (by decide) (by decide) (fun _ _ _ hf => False.elim hf) (fun r378 h378 n378 hp378 => ?_)
        obtain ⟨z378, s378, e378, rfl, rfl, rfl⟩ := hp378
        replace hE := fon_ok e378 hE
        refine aw_icmp_ne (tgt := 408) dX11_writeTarga_381 (by decide) (fun c381 => ?_) (fun c381 => ?_)
        · replace hE := fif hE c381
          exact aw_lv _ (List.forall_mem_cons.mpr ⟨rfl, (List.forall_mem_cons.mpr ⟨rfl, (List.forall_mem_cons.mpr ⟨rfl, (List.forall_mem_cons.mpr ⟨rfl, (List.forall_mem_cons.mpr ⟨rfl, (List.forall_mem_cons.mpr ⟨rfl, (List.forall_mem_cons.mpr ⟨rfl, (List.forall_mem_cons.mpr ⟨rfl, (List.forall_mem_cons.mpr ⟨rfl, (List.forall_mem_cons.mpr ⟨rfl, fun _ h => absurd h List.not_mem_nil⟩)⟩)⟩)⟩)⟩)⟩)⟩)⟩)⟩)⟩) (b_X11_writeTarga_408 mo mr ms mt dd wi hi gt sp ta li sr hb n  k284 hk284 k298 hk298 v1 v2 v3 v4 v5 v6 v7 v8 v9 mw mu co _ hE hF)
        · replace hE := fit hE c381
          refine aw_goto (tgt := 402) dX11_writeTarga_384 (by decide) ?_
          exact aw_lv _ (List.forall_mem_cons.mpr ⟨rfl, (List.forall_mem_cons.mpr ⟨rfl, (List.forall_mem_cons.mpr ⟨rfl, (List.forall_mem_cons.mpr ⟨rfl, (List.forall_mem_cons.mpr ⟨rfl, (List.forall_mem_cons.mpr ⟨rfl, (List.forall_mem_cons.mpr ⟨rfl, (List.forall_mem_cons.mpr ⟨rfl, (List.forall_mem_cons.mpr ⟨rfl, (List.forall_mem_cons.mpr ⟨rfl, fun _ h => absurd h List.not_mem_nil⟩)⟩)⟩)⟩)⟩)⟩)⟩)⟩)⟩)⟩) (b_X11_writeTarga_402 mo mr ms mt dd wi hi gt sp ta li sr hb n  k284 hk284 k298 hk298 k333 hk333 v1 v2 v3 v4 v5 v6 v7 v8 v9 mw mu co _ hE hF)
def F_X11_writeTarga_298 (dd : A) (wi : A) (hi : A) (k284 : Int32 → Int32 → Int32 → Int32 → Int32 → Int32 → MW → A → A → Out (MW × A × A) Unit) (k298 : Int32 → Int32 → Int32 → Int32 → Int32 → Int32 → Int32 → MW → A → A → Out (MW × A × A) Unit) (v1 : Int32) (v2 : Int32) (v3 : Int32) (v4 : Int32) (v5 : Int32) (v6 : Int32) (v7 : Int32) (mw : MW) (mu : A) (co : A) : Out (MW × A × A) Unit := if inb v1 4 then (if (wi (Int32.toNatClampNeg v1)) ≤ v7 then (k284 v1 v2 v3 v4 v5 (v6 + 1) mw mu co) else (if (v2 - v2 / 2 * 2) = 1 then (fon (F_X11_isLike v1 v7 v6 dd wi) (fun z328 s328 => lp (fun _ _ _ _ _ _ _ _ _ _ _ _ => fno) (F_X11_writeTarga_333 dd wi hi k284 k298) FU v1 v2 v3 v4 v5 v6 v7 (1 : Int32) z328 mw mu co) (fun _ _ => fno)) else (F_X11_writeTarga_429 dd wi hi k284 k298 v1 v2 v3 v4 v5 v6 v7 (1 : Int32) (0 : Int32) mw mu co))) else fno
set_option maxHeartbeats 1000000 in
set_option maxRecDepth 100000 in
theorem b_X11_writeTarga_298 (mo : MO) (mr : MR) (ms : Nat) (mt : A) (dd : A) (wi : A) (hi : A) (gt : A) (sp : A) (ta : A) (li : A) (sr : A) (hb : aH) (n : Nat)  (k284 : Int32 → Int32 → Int32 → Int32 → Int32 → Int32 → MW → A → A → Out (MW × A × A) Unit) (hk284 : Q_X11_writeTarga_284 mo mr ms mt dd wi hi gt sp ta li sr hb n k284) (k298 : Int32 → Int32 → Int32 → Int32 → Int32 → Int32 → Int32 → MW → A → A → Out (MW × A × A) Unit) (hk298 : Q_X11_writeTarga_298 mo mr ms mt dd wi hi gt sp ta li sr hb n k298) : Q_X11_writeTarga_298 mo mr ms mt dd wi hi gt sp ta li sr hb n (F_X11_writeTarga_298 dd wi hi k284 k298) := by
  intro v1 v2 v3 v4 v5 v6 v7 mw mu co res hE hF
  unfold F_X11_writeTarga_298 at hE
  refine aw_iload dX11_writeTarga_298 rfl ?_
  refine aw_aload_n dX11_writeTarga_300 rfl ?_
  refine aw_getf (v := .ref 35) dX11_writeTarga_301 flX11_21_10 at_mod rfl ?_
  refine aw_iload_n dX11_writeTarga_304 rfl ?_
  obtain ⟨g305, hE⟩ := fgd hE hF
  refine aw_iald (f := wi) dX11_writeTarga_305 at_mwide (vp_in_iff.mpr g305) ?_
  refine aw_icmp_ge (tgt := 520) dX11_writeTarga_306 (by decide) (fun c306 => ?_) (fun c306 => ?_)
  · replace hE := fit hE c306
    refine aw_iinc (v := (v6 + 1)) (lv2 := [(6, _), (0, _), (1, _), (2, _), (3, _), (4, _), (5, _), (7, _)]) dX11_writeTarga_520 rfl (incE (by decide)) (by decide) rfl ?_
    refine aw_goto (tgt := 284) dX11_writeTarga_523 (by decide) ?_
    exact aw_lv _ (List.forall_mem_cons.mpr ⟨rfl, (List.forall_mem_cons.mpr ⟨rfl, (List.forall_mem_cons.mpr ⟨rfl, (List.forall_mem_cons.mpr ⟨rfl, (List.forall_mem_cons.mpr ⟨rfl, (List.forall_mem_cons.mpr ⟨rfl, (List.forall_mem_cons.mpr ⟨rfl, fun _ h => absurd h List.not_mem_nil⟩)⟩)⟩)⟩)⟩)⟩)⟩) (hk284 v1 v2 v3 v4 v5 (v6 + 1) mw mu co _ hE hF)
  · replace hE := fif hE c306
    refine aw_iconst (v := 1) dX11_writeTarga_309 (by decide) ?_
    refine aw_istore (lv2 := [(8, _), (0, _), (1, _), (2, _), (3, _), (4, _), (5, _), (6, _), (7, _)]) dX11_writeTarga_310 (by decide) rfl ?_
    refine aw_iconst (v := 0) dX11_writeTarga_312 (by decide) ?_
    refine aw_istore (lv2 := [(9, _), (8, _), (0, _), (1, _), (2, _), (3, _), (4, _), (5, _), (6, _), (7, _)]) dX11_writeTarga_313 (by decide) rfl ?_
    refine aw_iload_n dX11_writeTarga_315 rfl ?_
    refine aw_iconst (v := 2) dX11_writeTarga_316 (by decide) ?_
    refine aw_irem dX11_writeTarga_317 (by decide) ?_
    refine aw_iconst (v := 1) dX11_writeTarga_318 (by decide) ?_
    refine aw_icmp_ne (tgt := 429) dX11_writeTarga_319 (by decide) (fun c319 => ?_) (fun c319 => ?_)
    · replace hE := fif hE c319
      exact aw_lv _ (List.forall_mem_cons.mpr ⟨rfl, (List.forall_mem_cons.mpr ⟨rfl, (List.forall_mem_cons.mpr ⟨rfl, (List.forall_mem_cons.mpr ⟨rfl, (List.forall_mem_cons.mpr ⟨rfl, (List.forall_mem_cons.mpr ⟨rfl, (List.forall_mem_cons.mpr ⟨rfl, (List.forall_mem_cons.mpr ⟨rfl, (List.forall_mem_cons.mpr ⟨rfl, (List.forall_mem_cons.mpr ⟨rfl, fun _ h => absurd h List.not_mem_nil⟩)⟩)⟩)⟩)⟩)⟩)⟩)⟩)⟩)⟩) (b_X11_writeTarga_429 mo mr ms mt dd wi hi gt sp ta li sr hb n  k284 hk284 k298 hk298 v1 v2 v3 v4 v5 v6 v7 (1 : Int32) (0 : Int32) mw mu co _ hE hF)
    · replace hE := fit hE c319
      refine aw_aload_n dX11_writeTarga_322 rfl ?_
      refine aw_iload_n dX11_writeTarga_323 rfl ?_
      refine aw_iload dX11_writeTarga_324 rfl ?_
      refine aw_iload dX11_writeTarga_326 rfl ?_
      refine aw_callV dX11_writeTarga_328 at_mod cvX11_305 rfl (kF_X11_isLike mo mw mr ms mt mu dd wi hi gt sp ta li sr co hb _  v1 v7 v6 (fon_ne hE hF)) rfl (Nat.le_of_ble_eq_true rfl) (by decide) (by decide) (by decide) (by decide) (fun _ _ _ hf => False.elim hf) (fun r328 h328 n328 hp328 => ?_)
      obtain ⟨z328, s328, e328, rfl, rfl, rfl⟩ := hp328
      replace hE := fon_ok e328 hE
      refine aw_istore (lv2 := [(9, _), (8, _), (0, _), (1, _), (2, _), (3, _), (4, _), (5, _), (6, _), (7, _)]) dX11_writeTarga_331 (by decide) rfl ?_
      exact aw_lv _ (List.forall_mem_cons.mpr ⟨rfl, (List.forall_mem_cons.mpr ⟨rfl, (List.forall_mem_cons.mpr ⟨rfl, (List.forall_mem_cons.mpr ⟨rfl, (List.forall_mem_cons.mpr ⟨rfl, (List.forall_mem_cons.mpr ⟨rfl, (List.forall_mem_cons.mpr ⟨rfl, (List.forall_mem_cons.mpr ⟨rfl, (List.forall_mem_cons.mpr ⟨rfl, (List.forall_mem_cons.mpr ⟨rfl, fun _ h => absurd h List.not_mem_nil⟩)⟩)⟩)⟩)⟩)⟩)⟩)⟩)⟩)⟩) (lp_ind (Q_X11_writeTarga_333 mo mr ms mt dd wi hi gt sp ta li sr hb n) (fun _ _ _ _ _ _ _ _ _ _ _ _ res hq hF => (hF hq.symm).elim) (fun k hk => b_X11_writeTarga_333 mo mr ms mt dd wi hi gt sp ta li sr hb n  k284 hk284 k298 hk298 k hk) FU v1 v2 v3 v4 v5 v6 v7 (1 : Int32) z328 mw mu co _ hE hF)
def F_X11_writeTarga_284 (dd : A) (wi : A) (hi : A) (k284 : Int32 → Int32 → Int32 → Int32 → Int32 → Int32 → MW → A → A → Out (MW × A × A) Unit) (v1 : Int32) (v2 : Int32) (v3 : Int32) (v4 : Int32) (v5 : Int32) (v6 : Int32) (mw : MW) (mu : A) (co : A) : Out (MW × A × A) Unit := if inb v1 4 then (if (hi (Int32.toNatClampNeg v1)) ≤ v6 then (fok () (mw, mu, co)) else (lp (fun _ _ _ _ _ _ _ _ _ _ => fno) (F_X11_writeTarga_298 dd wi hi k284) FU v1 v2 v3 v4 v5 v6 (0 : Int32) mw mu co)) else fno
set_option maxHeartbeats 1000000 in
set_option maxRecDepth 100000 in
theorem b_X11_writeTarga_284 (mo : MO) (mr : MR) (ms : Nat) (mt : A) (dd : A) (wi : A) (hi : A) (gt : A) (sp : A) (ta : A) (li : A) (sr : A) (hb : aH) (n : Nat)  (k284 : Int32 → Int32 → Int32 → Int32 → Int32 → Int32 → MW → A → A → Out (MW × A × A) Unit) (hk284 : Q_X11_writeTarga_284 mo mr ms mt dd wi hi gt sp ta li sr hb n k284) : Q_X11_writeTarga_284 mo mr ms mt dd wi hi gt sp ta li sr hb n (F_X11_writeTarga_284 dd wi hi k284) := by
  intro v1 v2 v3 v4 v5 v6 mw mu co res hE hF
  unfold F_X11_writeTarga_284 at hE
  refine aw_iload dX11_writeTarga_284 rfl ?_
  refine aw_aload_n dX11_writeTarga_286 rfl ?_
  refine aw_getf (v := .ref 36) dX11_writeTarga_287 flX11_24_10 at_mod rfl ?_
  refine aw_iload_n dX11_writeTarga_290 rfl ?_
  obtain ⟨g291, hE⟩ := fgd hE hF
  refine aw_iald (f := hi) dX11_writeTarga_291 at_mhigh (vp_in_iff.mpr g291) ?_
  refine aw_icmp_ge (tgt := 526) dX11_writeTarga_292 (by decide) (fun c292 => ?_) (fun c292 => ?_)
  · replace hE := fit hE c292
    exact aw_vret dX11_writeTarga_526 rfl (Nat.zero_le _) (Nat.zero_le _) (Nat.zero_le _) (Nat.zero_le _) ⟨_, _, hE.symm, rfl, rfl, rfl⟩
  · replace hE := fif hE c292
    refine aw_iconst (v := 0) dX11_writeTarga_295 (by decide) ?_
    refine aw_istore (lv2 := [(7, _), (0, _), (1, _), (2, _), (3, _), (4, _), (5, _), (6, _)]) dX11_writeTarga_296 (by decide) rfl ?_
    exact aw_lv _ (List.forall_mem_cons.mpr ⟨rfl, (List.forall_mem_cons.mpr ⟨rfl, (List.forall_mem_cons.mpr ⟨rfl, (List.forall_mem_cons.mpr ⟨rfl, (List.forall_mem_cons.mpr ⟨rfl, (List.forall_mem_cons.mpr ⟨rfl, (List.forall_mem_cons.mpr ⟨rfl, (List.forall_mem_cons.mpr ⟨rfl, fun _ h => absurd h List.not_mem_nil⟩)⟩)⟩)⟩)⟩)⟩)⟩)⟩) (lp_ind (Q_X11_writeTarga_298 mo mr ms mt dd wi hi gt sp ta li sr hb n) (fun _ _ _ _ _ _ _ _ _ _ res hq hF => (hF hq.symm).elim) (fun k hk => b_X11_writeTarga_298 mo mr ms mt dd wi hi gt sp ta li sr hb n  k284 hk284 k hk) FU v1 v2 v3 v4 v5 v6 (0 : Int32) mw mu co _ hE hF)
def F_X11_writeTarga_281 (dd : A) (wi : A) (hi : A)  (v1 : Int32) (v2 : Int32) (v3 : Int32) (v4 : Int32) (v5 : Int32) (mw : MW) (mu : A) (co : A) : Out (MW × A × A) Unit := lp (fun _ _ _ _ _ _ _ _ _ => fno) (F_X11_writeTarga_284 dd wi hi) FU v1 v2 v3 v4 v5 (0 : Int32) mw mu co
set_option maxHeartbeats 1000000 in
set_option maxRecDepth 100000 in
theorem b_X11_writeTarga_281 (mo : MO) (mr : MR) (ms : Nat) (mt : A) (dd : A) (wi : A) (hi : A) (gt : A) (sp : A) (ta : A) (li : A) (sr : A) (hb : aH) (n : Nat)   : Q_X11_writeTarga_281 mo mr ms mt dd wi hi gt sp ta li sr hb n (F_X11_writeTarga_281 dd wi hi) := by
  intro v1 v2 v3 v4 v5 mw mu co res hE hF
  unfold F_X11_writeTarga_281 at hE
  refine aw_iconst (v := 0) dX11_writeTarga_281 (by decide) ?_
  refine aw_istore (lv2 := [(6, _), (0, _), (1, _), (2, _), (3, _), (4, _), (5, _)]) dX11_writeTarga_282 (by decide) rfl ?_
  exact aw_lv _ (List.forall_mem_cons.mpr ⟨rfl, (List.forall_mem_cons.mpr ⟨rfl, (List.forall_mem_cons.mpr ⟨rfl, (List.forall_mem_cons.mpr ⟨rfl, (List.forall_mem_cons.mpr ⟨rfl, (List.forall_mem_cons.mpr ⟨rfl, (List.forall_mem_cons.mpr ⟨rfl, fun _ h => absurd h List.not_mem_nil⟩)⟩)⟩)⟩)⟩)⟩)⟩) (lp_ind (Q_X11_writeTarga_284 mo mr ms mt dd wi hi gt sp ta li sr hb n) (fun _ _ _ _ _ _ _ _ _ res hq hF => (hF hq.symm).elim) (fun k hk => b_X11_writeTarga_284 mo mr ms mt dd wi hi gt sp ta li sr hb n   k hk) FU v1 v2 v3 v4 v5 (0 : Int32) mw mu co _ hE hF)
def F_X11_writeTarga_254 (dd : A) (wi : A) (hi : A) (k254 : Int32 → Int32 → Int32 → Int32 → Int32 → Int32 → MW → A → A → Out (MW × A × A) Unit) (v1 : Int32) (v2 : Int32) (v3 : Int32) (v4 : Int32) (v5 : Int32) (v6 : Int32) (mw : MW) (mu : A) (co : A) : Out (MW × A × A) Unit := if (mw_cm mw) ≤ v6 then (F_X11_writeTarga_281 dd wi hi v1 v2 v3 v4 v5 mw mu co) else (if inb v6 256 then (fon (F_X11_putBack (co (Int32.toNatClampNeg v6)) v3 mw mu) (fun z272 s272 => k254 v1 v2 v3 v4 v5 (v6 + 1) s272.1 s272.2 co) (fun _ _ => fno)) else fno)
set_option maxHeartbeats 1000000 in
set_option maxRecDepth 100000 in
theorem b_X11_writeTarga_254 (mo : MO) (mr : MR) (ms : Nat) (mt : A) (dd : A) (wi : A) (hi : A) (gt : A) (sp : A) (ta : A) (li : A) (sr : A) (hb : aH) (n : Nat)  (k254 : Int32 → Int32 → Int32 → Int32 → Int32 → Int32 → MW → A → A → Out (MW × A × A) Unit) (hk254 : Q_X11_writeTarga_254 mo mr ms mt dd wi hi gt sp ta li sr hb n k254) : Q_X11_writeTarga_254 mo mr ms mt dd wi hi gt sp ta li sr hb n (F_X11_writeTarga_254 dd wi hi k254) := by
  intro v1 v2 v3 v4 v5 v6 mw mu co res hE hF
  unfold F_X11_writeTarga_254 at hE
  refine aw_iload dX11_writeTarga_254 rfl ?_
  refine aw_aload_n dX11_writeTarga_256 rfl ?_
  refine aw_getf (v := .int (mw_cm mw)) dX11_writeTarga_257 flX11_262_10 at_mod rfl ?_
  refine aw_icmp_ge (tgt := 281) dX11_writeTarga_260 (by decide) (fun c260 => ?_) (fun c260 => ?_)
  · replace hE := fit hE c260
    exact aw_lv _ (List.forall_mem_cons.mpr ⟨rfl, (List.forall_mem_cons.mpr ⟨rfl, (List.forall_mem_cons.mpr ⟨rfl, (List.forall_mem_cons.mpr ⟨rfl, (List.forall_mem_cons.mpr ⟨rfl, (List.forall_mem_cons.mpr ⟨rfl, fun _ h => absurd h List.not_mem_nil⟩)⟩)⟩)⟩)⟩)⟩) (b_X11_writeTarga_281 mo mr ms mt dd wi hi gt sp ta li sr hb n   v1 v2 v3 v4 v5 mw mu co _ hE hF)
  · replace hE := fif hE c260
    refine aw_aload_n dX11_writeTarga_263 rfl ?_
    refine aw_aload_n dX11_writeTarga_264 rfl ?_
    refine aw_getf (v := .ref 42) dX11_writeTarga_265 flX11_58_10 at_mod rfl ?_
    refine aw_iload dX11_writeTarga_268 rfl ?_
    obtain ⟨g270, hE⟩ := fgd hE hF
    refine aw_iald (f := co) dX11_writeTarga_270 at_mcols (vp_in_iff.mpr g270) ?_
    refine aw_iload_n dX11_writeTarga_271 rfl ?_
    refine aw_callV dX11_writeTarga_272 at_mod cvX11_299 rfl (kF_X11_putBack mo mw mr ms mt mu dd wi hi gt sp ta li sr co hb _  (co (Int32.toNatClampNeg v6)) v3 (fon_ne hE hF)) rfl (Nat.le_of_ble_eq_true rfl) (by decide) (by decide) (by decide) (by decide) (fun _ _ _ hf => False.elim hf) (fun r272 h272 n272 hp272 => ?_)
    obtain ⟨z272, s272, e272, rfl, rfl, rfl⟩ := hp272
    replace hE := fon_ok e272 hE
    refine aw_iinc (v := (v6 + 1)) (lv2 := [(6, _), (0, _), (1, _), (2, _), (3, _), (4, _), (5, _)]) dX11_writeTarga_275 rfl (incE (by decide)) (by decide) rfl ?_
    refine aw_goto (tgt := 254) dX11_writeTarga_278 (by decide) ?_
    exact aw_lv _ (List.forall_mem_cons.mpr ⟨rfl, (List.forall_mem_cons.mpr ⟨rfl, (List.forall_mem_cons.mpr ⟨rfl, (List.forall_mem_cons.mpr ⟨rfl, (List.forall_mem_cons.mpr ⟨rfl, (List.forall_mem_cons.mpr ⟨rfl, (List.forall_mem_cons.mpr ⟨rfl, fun _ h => absurd h List.not_mem_nil⟩)⟩)⟩)⟩)⟩)⟩)⟩) (hk254 v1 v2 v3 v4 v5 (v6 + 1) s272.1 s272.2 co _ hE hF)
def F_X11_writeTarga_243 (dd : A) (wi : A) (hi : A)  (v1 : Int32) (v2 : Int32) (v3 : Int32) (v4 : Int32) (v5 : Int32) (t0 : Int32) (mw : MW) (mu : A) (co : A) : Out (MW × A × A) Unit := fon (F_X11_put_ t0 mw mu) (fun z243 s243 => if v4 = 0 then (F_X11_writeTarga_281 dd wi hi v1 v2 v3 v4 v5 s243.1 s243.2 co) else (lp (fun _ _ _ _ _ _ _ _ _ => fno) (F_X11_writeTarga_254 dd wi hi) FU v1 v2 v3 v4 v5 (0 : Int32) s243.1 s243.2 co)) (fun _ _ => fno)
set_option maxHeartbeats 1000000 in
set_option maxRecDepth 100000 in
theorem b_X11_writeTarga_243 (mo : MO) (mr : MR) (ms : Nat) (mt : A) (dd : A) (wi : A) (hi : A) (gt : A) (sp : A) (ta : A) (li : A) (sr : A) (hb : aH) (n : Nat)   : Q_X11_writeTarga_243 mo mr ms mt dd wi hi gt sp ta li sr hb n (F_X11_writeTarga_243 dd wi hi) := by
  intro v1 v2 v3 v4 v5 t0 mw mu co res hE hF
  unfold F_X11_writeTarga_243 at hE
  refine aw_callV dX11_writeTarga_243 at_mod cvX11_280 rfl (kF_X11_put_ mo mw mr ms mt mu dd wi hi gt sp ta li sr co hb _  t0 (fon_ne hE hF)) rfl (Nat.le_of_ble_eq_true rfl) (by decide) (by decide) (by decide) (by decide) (fun _ _ _ hf => False.elim hf) (fun r243 h243 n243 hp243 => ?_)
  obtain ⟨z243, s243, e243, rfl, rfl, rfl⟩ := hp243
  replace hE := fon_ok e243 hE
  refine aw_iload dX11_writeTarga_246 rfl ?_
  refine aw_if_eq (tgt := 281) dX11_writeTarga_248 (by decide) (fun c248 => ?_) (fun c248 => ?_)
  · replace hE := fit hE c248
    exact aw_lv _ (List.forall_mem_cons.mpr ⟨rfl, (List.forall_mem_cons.mpr ⟨rfl, (List.forall_mem_cons.mpr ⟨rfl, (List.forall_mem_cons.mpr ⟨rfl, (List.forall_mem_cons.mpr ⟨rfl, (List.forall_mem_cons.mpr ⟨rfl, fun _ h => absurd h List.not_mem_nil⟩)⟩)⟩)⟩)⟩)⟩) (b_X11_writeTarga_281 mo mr ms mt dd wi hi gt sp ta li sr hb n   v1 v2 v3 v4 v5 s243.1 s243.2 co _ hE hF)
  · replace hE := fif hE c248
    refine aw_iconst (v := 0) dX11_writeTarga_251 (by decide) ?_
    refine aw_istore (lv2 := [(6, _), (0, _), (1, _), (2, _), (3, _), (4, _), (5, _)]) dX11_writeTarga_252 (by decide) rfl ?_
    exact aw_lv _ (List.forall_mem_cons.mpr ⟨rfl, (List.forall_mem_cons.mpr ⟨rfl, (List.forall_mem_cons.mpr ⟨rfl, (List.forall_mem_cons.mpr ⟨rfl, (List.forall_mem_cons.mpr ⟨rfl, (List.forall_mem_cons.mpr ⟨rfl, (List.forall_mem_cons.mpr ⟨rfl, fun _ h => absurd h List.not_mem_nil⟩)⟩)⟩)⟩)⟩)⟩)⟩) (lp_ind (Q_X11_writeTarga_254 mo mr ms mt dd wi hi gt sp ta li sr hb n) (fun _ _ _ _ _ _ _ _ _ res hq hF => (hF hq.symm).elim) (fun k hk => b_X11_writeTarga_254 mo mr ms mt dd wi hi gt sp ta li sr hb n   k hk) FU v1 v2 v3 v4 v5 (0 : Int32) s243.1 s243.2 co _ hE hF)
def F_X11_writeTarga_241 (dd : A) (wi : A) (hi : A)  (v1 : Int32) (v2 : Int32) (v3 : Int32) (v4 : Int32) (v5 : Int32) (mw : MW) (mu : A) (co : A) : Out (MW × A × A) Unit := F_X11_writeTarga_243 dd wi hi v1 v2 v3 v4 v5 (32 : Int32) mw mu co
set_option maxHeartbeats 1000000 in
set_option maxRecDepth 100000 in
theorem b_X11_writeTarga_241 (mo : MO) (mr : MR) (ms : Nat) (mt : A) (dd : A) (wi : A) (hi : A) (gt : A) (sp : A) (ta : A) (li : A) (sr : A) (hb : aH) (n : Nat)   : Q_X11_writeTarga_241 mo mr ms mt dd wi hi gt sp ta li sr hb n (F_X11_writeTarga_241 dd wi hi) := by
  intro v1 v2 v3 v4 v5 mw mu co res hE hF
  unfold F_X11_writeTarga_241 at hE
  refine aw_bipush (v := 32) dX11_writeTarga_241 (by decide) ?_
  exact aw_lv _ (List.forall_mem_cons.mpr ⟨rfl, (List.forall_mem_cons.mpr ⟨rfl, (List.forall_mem_cons.mpr ⟨rfl, (List.forall_mem_cons.mpr ⟨rfl, (List.forall_mem_cons.mpr ⟨rfl, (List.forall_mem_cons.mpr ⟨rfl, fun _ h => absurd h List.not_mem_nil⟩)⟩)⟩)⟩)⟩)⟩) (b_X11_writeTarga_243 mo mr ms mt dd wi hi gt sp ta li sr hb n   v1 v2 v3 v4 v5 (32 : Int32) mw mu co _ hE hF)
def F_X11_writeTarga_222 (dd : A) (wi : A) (hi : A)  (v1 : Int32) (v2 : Int32) (v3 : Int32) (v4 : Int32) (v5 : Int32) (t0 : Int32) (mw : MW) (mu : A) (co : A) : Out (MW × A × A) Unit := fon (F_X11_put_ t0 mw mu) (fun z222 s222 => if v3 = 4 then (if v5 = 0 then (F_X11_writeTarga_243 dd wi hi v1 v2 v3 v4 v5 (40 : Int32) s222.1 s222.2 co) else (F_X11_writeTarga_241 dd wi hi v1 v2 v3 v4 v5 s222.1 s222.2 co)) else (F_X11_writeTarga_241 dd wi hi v1 v2 v3 v4 v5 s222.1 s222.2 co)) (fun _ _ => fno)
set_option maxHeartbeats 1000000 in
set_option maxRecDepth 100000 in
theorem b_X11_writeTarga_222 (mo : MO) (mr : MR) (ms : Nat) (mt : A) (dd : A) (wi : A) (hi : A) (gt : A) (sp : A) (ta : A) (li : A) (sr : A) (hb : aH) (n : Nat)   : Q_X11_writeTarga_222 mo mr ms mt dd wi hi gt sp ta li sr hb n (F_X11_writeTarga_222 dd wi hi) := by
  intro v1 v2 v3 v4 v5 t0 mw mu co res hE hF
  unfold F_X11_writeTarga_222 at hE
  refine aw_callV dX11_writeTarga_222 at_mod cvX11_280 rfl (kF_X11_put_ mo mw mr ms mt mu dd wi hi gt sp ta li sr co hb _  t0 (fon_ne hE hF)) rfl (Nat.le_of_ble_eq_true rfl) (by decide) (by decide) (by decide) (by decide) (fun _ _ _ hf => False.elim hf) (fun r222 h222 n222 hp222 => ?_)
  obtain ⟨z222, s222, e222, rfl, rfl, rfl⟩ := hp222
  replace hE := fon_ok e222 hE
  refine aw_aload_n dX11_writeTarga_225 rfl ?_
  refine aw_iload_n dX11_writeTarga_226 rfl ?_
  refine aw_iconst (v := 4) dX11_writeTarga_227 (by decide) ?_
  refine aw_icmp_ne (tgt := 241) dX11_writeTarga_228 (by decide) (fun c228 => ?_) (fun c228 => ?_)
  · replace hE := fif hE c228
    exact aw_lv _ (List.forall_mem_cons.mpr ⟨rfl, (List.forall_mem_cons.mpr ⟨rfl, (List.forall_mem_cons.mpr ⟨rfl, (List.forall_mem_cons.mpr ⟨rfl, (List.forall_mem_cons.mpr ⟨rfl, (List.forall_mem_cons.mpr ⟨rfl, fun _ h => absurd h List.not_mem_nil⟩)⟩)⟩)⟩)⟩)⟩) (b_X11_writeTarga_241 mo mr ms mt dd wi hi gt sp ta li sr hb n   v1 v2 v3 v4 v5 s222.1 s222.2 co _ hE hF)
  · replace hE := fit hE c228
    refine aw_iload dX11_writeTarga_231 rfl ?_
    refine aw_if_ne (tgt := 241) dX11_writeTarga_233 (by decide) (fun c233 => ?_) (fun c233 => ?_)
    · replace hE := fif hE c233
      exact aw_lv _ (List.forall_mem_cons.mpr ⟨rfl, (List.forall_mem_cons.mpr ⟨rfl, (List.forall_mem_cons.mpr ⟨rfl, (List.forall_mem_cons.mpr ⟨rfl, (List.forall_mem_cons.mpr ⟨rfl, (List.forall_mem_cons.mpr ⟨rfl, fun _ h => absurd h List.not_mem_nil⟩)⟩)⟩)⟩)⟩)⟩) (b_X11_writeTarga_241 mo mr ms mt dd wi hi gt sp ta li sr hb n   v1 v2 v3 v4 v5 s222.1 s222.2 co _ hE hF)
    · replace hE := fit hE c233
      refine aw_bipush (v := 40) dX11_writeTarga_236 (by decide) ?_
      refine aw_goto (tgt := 243) dX11_writeTarga_238 (by decide) ?_
      exact aw_lv _ (List.forall_mem_cons.mpr ⟨rfl, (List.forall_mem_cons.mpr ⟨rfl, (List.forall_mem_cons.mpr ⟨rfl, (List.forall_mem_cons.mpr ⟨rfl, (List.forall_mem_cons.mpr ⟨rfl, (List.forall_mem_cons.mpr ⟨rfl, fun _ h => absurd h List.not_mem_nil⟩)⟩)⟩)⟩)⟩)⟩) (b_X11_writeTarga_243 mo mr ms mt dd wi hi gt sp ta li sr hb n   v1 v2 v3 v4 v5 (40 : Int32) s222.1 s222.2 co _ hE hF)
def F_X11_writeTarga_213 (dd : A) (wi : A) (hi : A)  (v1 : Int32) (v2 : Int32) (v3 : Int32) (v4 : Int32) (v5 : Int32) (mw : MW) (mu : A) (co : A) : Out (MW × A × A) Unit := F_X11_writeTarga_222 dd wi hi v1 v2 v3 v4 v5 (8 : Int32) mw mu co
set_option maxHeartbeats 1000000 in
set_option maxRecDepth 100000 in
theorem b_X11_writeTarga_213 (mo : MO) (mr : MR) (ms : Nat) (mt : A) (dd : A) (wi : A) (hi : A) (gt : A) (sp : A) (ta : A) (li : A) (sr : A) (hb : aH) (n : Nat)   : Q_X11_writeTarga_213 mo mr ms mt dd wi hi gt sp ta li sr hb n (F_X11_writeTarga_213 dd wi hi) := by
  intro v1 v2 v3 v4 v5 mw mu co res hE hF
  unfold F_X11_writeTarga_213 at hE
  refine aw_bipush (v := 8) dX11_writeTarga_213 (by decide) ?_
  refine aw_goto (tgt := 222) dX11_writeTarga_215 (by decide) ?_
  exact aw_lv _ (List.forall_mem_cons.mpr ⟨rfl, (List.forall_mem_cons.mpr ⟨rfl, (List.forall_mem_cons.mpr ⟨rfl, (List.forall_mem_cons.mpr ⟨rfl, (List.forall_mem_cons.mpr ⟨rfl, (List.forall_mem_cons.mpr ⟨rfl, fun _ h => absurd h List.not_mem_nil⟩)⟩)⟩)⟩)⟩)⟩) (b_X11_writeTarga_222 mo mr ms mt dd wi hi gt sp ta li sr hb n   v1 v2 v3 v4 v5 (8 : Int32) mw mu co _ hE hF)
def F_X11_writeTarga_171 (dd : A) (wi : A) (hi : A)  (v1 : Int32) (v2 : Int32) (v3 : Int32) (v4 : Int32) (v5 : Int32) (t0 : Int32) (mw : MW) (mu : A) (co : A) : Out (MW × A × A) Unit := fon (F_X11_put_ t0 mw mu) (fun z171 s171 => fon (F_X11_putLow 0 4 s171.1 s171.2) (fun z177 s177 => if inb v1 4 then (fon (F_X11_putLow (wi (Int32.toNatClampNeg v1)) 2 s177.1 s177.2) (fun z188 s188 => if inb v1 4 then (fon (F_X11_putLow (hi (Int32.toNatClampNeg v1)) 2 s188.1 s188.2) (fun z199 s199 => if v4 = 0 then (if v5 = 0 then (F_X11_writeTarga_222 dd wi hi v1 v2 v3 v4 v5 (8 * v3) s199.1 s199.2 co) else (F_X11_writeTarga_213 dd wi hi v1 v2 v3 v4 v5 s199.1 s199.2 co)) else (F_X11_writeTarga_213 dd wi hi v1 v2 v3 v4 v5 s199.1 s199.2 co)) (fun _ _ => fno)) else fno) (fun _ _ => fno)) else fno) (fun _ _ => fno)) (fun _ _ => fno)
set_option maxHeartbeats 1000000 in
set_option maxRecDepth 100000 in
theorem b_X11_writeTarga_171 (mo : MO) (mr : MR) (ms : Nat) (mt : A) (dd : A) (wi : A) (hi : A) (gt : A) (sp : A) (ta : A) (li : A) (sr : A) (hb : aH) (n : Nat)   : Q_X11_writeTarga_171 mo mr ms mt dd wi hi gt sp ta li sr hb n (F_X11_writeTarga_171 dd wi hi) := by
  intro v1 v2 v3 v4 v5 t0 mw mu co res hE hF
  unfold F_X11_writeTarga_171 at hE
  refine aw_callV dX11_writeTarga_171 at_mod cvX11_280 rfl (kF_X11_put_ mo mw mr ms mt mu dd wi hi gt sp ta li sr co hb _  t0 (fon_ne hE hF)) rfl (Nat.le_of_ble_eq_true rfl) (by decide) (by decide) (by decide) (by decide) (fun _ _ _ hf => False.elim hf) (fun r171 h171 n171 hp171 => ?_)
  obtain ⟨z171, s171, e171, rfl, rfl, rfl⟩ := hp171
  replace hE := fon_ok e171 hE
  refine aw_aload_n dX11_writeTarga_174 rfl ?_
  refine aw_iconst (v := 0) dX11_writeTarga_175 (by decide) ?_
  refine aw_iconst (v := 4) dX11_writeTarga_176 (by decide) ?_
  refine aw_callV dX11_writeTarga_177 at_mod cvX11_296 rfl (kF_X11_putLow mo s171.1 mr ms mt s171.2 dd wi hi gt sp ta li sr co hb _  0 4 (fon_ne hE hF)) rfl (Nat.le_of_ble_eq_true rfl) (by decide) (by decide) (by decide) (by decide) (fun _ _ _ hf => False.elim hf) (fun r177 h177 n177 hp177 => ?_)
  obtain ⟨z177, s177, e177, rfl, rfl, rfl⟩ := hp177
  replace hE := fon_ok e177 hE
  refine aw_aload_n dX11_writeTarga_180 rfl ?_
  refine aw_aload_n dX11_writeTarga_181 rfl ?_
  refine aw_getf (v := .ref 35) dX11_writeTarga_182 flX11_21_10 at_mod rfl ?_
  refine aw_iload_n dX11_writeTarga_185 rfl ?_
  obtain ⟨g186, hE⟩ := fgd hE hF
  refine aw_iald (f := wi) dX11_writeTarga_186 at_mwide (vp_in_iff.mpr g186) ?_
  refine aw_iconst (v := 2) dX11_writeTarga_187 (by decide) ?_
  refine aw_callV dX11_writeTarga_188 at_mod cvX11_296 rfl (kF_X11_putLow mo s177.1 mr ms mt s177.2 dd wi hi gt sp ta li sr co hb _  (wi (Int32.toNatClampNeg v1)) 2 (fon_ne hE hF)) rfl (Nat.le_of_ble_eq_true rfl) (by decide) (by decide) (by decide) (by decide) (fun _ _ _ hf => False.elim hf) (fun r188 h188 n188 hp188 => ?_)
  obtain ⟨z188, s188, e188, rfl, rfl, rfl⟩ := hp188
  replace hE := fon_ok e188 hE
  refine aw_aload_n dX11_writeTarga_191 rfl ?_
  refine aw_aload_n dX11_writeTarga_192 rfl ?_
  refine aw_getf (v := .ref 36) dX11_writeTarga_193 flX11_24_10 at_mod rfl ?_
  refine aw_iload_n dX11_writeTarga_196 rfl ?_
  obtain ⟨g197, hE⟩ := fgd hE hF
  refine aw_iald (f := hi) dX11_writeTarga_197 at_mhigh (vp_in_iff.mpr g197) ?_
  refine aw_iconst (v := 2) dX11_writeTarga_198 (by decide) ?_
  refine aw_callV dX11_writeTarga_199 at_mod cvX11_296 rfl (kF_X11_putLow mo s188.1 mr ms mt s188.2 dd wi hi gt sp ta li sr co hb _  (hi (Int32.toNatClampNeg v1)) 2 (fon_ne hE hF)) rfl (Nat.le_of_ble_eq_true rfl) (by decide) (by decide) (by decide) (by decide) (fun _ _ _ hf => False.elim hf) (fun r199 h199 n199 hp199 => ?_)
  obtain ⟨z199, s199, e199, rfl, rfl, rfl⟩ := hp199
  replace hE := fon_ok e199 hE
  refine aw_aload_n dX11_writeTarga_202 rfl ?_
  refine aw_iload dX11_writeTarga_203 rfl ?_
  refine aw_if_ne (tgt := 213) dX11_writeTarga_205 (by decide) (fun c205 => ?_) (fun c205 => ?_)
  · replace hE := fif hE c205
    exact aw_lv _ (List.forall_mem_cons.mpr ⟨rfl, (List.forall_mem_cons.mpr ⟨rfl, (List.forall_mem_cons.mpr ⟨rfl, (List.forall_mem_cons.mpr ⟨rfl, (List.forall_mem_cons.mpr ⟨rfl, (List.forall_mem_cons.mpr ⟨rfl, fun _ h => absurd h List.not_mem_nil⟩)⟩)⟩)⟩)⟩)⟩) (b_X11_writeTarga_213 mo mr ms mt dd wi hi gt sp ta li sr hb n   v1 v2 v3 v4 v5 s199.1 s199.2 co _ hE hF)
  · replace hE := fit hE c205
    refine aw_iload dX11_writeTarga_208 rfl ?_
    refine aw_if_eq (tgt := 218) dX11_writeTarga_210 (by decide) (fun c210 => ?_) (fun c210 => ?_)
    · replace hE := fit hE c210
      refine aw_bipush (v := 8) dX11_writeTarga_218 (by decide) ?_
      refine aw_iload_n dX11_writeTarga_220 rfl ?_
      refine aw_imul dX11_writeTarga_221 ?_
      exact aw_lv _ (List.forall_mem_cons.mpr ⟨rfl, (List.forall_mem_cons.mpr ⟨rfl, (List.forall_mem_cons.mpr ⟨rfl, (List.forall_mem_cons.mpr ⟨rfl, (List.forall_mem_cons.mpr ⟨rfl, (List.forall_mem_cons.mpr ⟨rfl, fun _ h => absurd h List.not_mem_nil⟩)⟩)⟩)⟩)⟩)⟩) (b_X11_writeTarga_222 mo mr ms mt dd wi hi gt sp ta li sr hb n   v1 v2 v3 v4 v5 (8 * v3) s199.1 s199.2 co _ hE hF)
    · replace hE := fif hE c210
      exact aw_lv _ (List.forall_mem_cons.mpr ⟨rfl, (List.forall_mem_cons.mpr ⟨rfl, (List.forall_mem_cons.mpr ⟨rfl, (List.forall_mem_cons.mpr ⟨rfl, (List.forall_mem_cons.mpr ⟨rfl, (List.forall_mem_cons.mpr ⟨rfl, fun _ h => absurd h List.not_mem_nil⟩)⟩)⟩)⟩)⟩)⟩) (b_X11_writeTarga_213 mo mr ms mt dd wi hi gt sp ta li sr hb n   v1 v2 v3 v4 v5 s199.1 s199.2 co _ hE hF)
def F_X11_writeTarga_153 (dd : A) (wi : A) (hi : A)  (v1 : Int32) (v2 : Int32) (v3 : Int32) (v4 : Int32) (v5 : Int32) (t0 : Int32) (mw : MW) (mu : A) (co : A) : Out (MW × A × A) Unit := fon (F_X11_putLow t0 2 mw mu) (fun z154 s154 => if v4 = 0 then (F_X11_writeTarga_171 dd wi hi v1 v2 v3 v4 v5 (0 : Int32) s154.1 s154.2 co) else (F_X11_writeTarga_171 dd wi hi v1 v2 v3 v4 v5 (8 * v3) s154.1 s154.2 co)) (fun _ _ => fno)
set_option maxHeartbeats 1000000 in
set_option maxRecDepth 100000 in
theorem b_X11_writeTarga_153 (mo : MO) (mr : MR) (ms : Nat) (mt : A) (dd : A) (wi : A) (hi : A) (gt : A) (sp : A) (ta : A) (li : A) (sr : A) (hb : aH) (n : Nat)   : Q_X11_writeTarga_153 mo mr ms mt dd wi hi gt sp ta li sr hb n (F_X11_writeTarga_153 dd wi hi) := by
  intro v1 v2 v3 v4 v5 t0 mw mu co res hE hF
  unfold F_X11_writeTarga_153 at hE
  refine aw_iconst (v := 2) dX11_writeTarga_153 (by decide) ?_
  refine aw_callV dX11_writeTarga_154 at_mod cvX11_296 rfl (kF_X11_putLow mo mw mr ms mt mu dd wi hi gt sp ta li sr co hb _  t0 2 (fon_ne hE hF)) rfl (Nat.le_of_ble_eq_true rfl) (by decide) (by decide) (by decide) (by decide) (fun _ _ _ hf => False.elim hf) (fun r154 h154 n154 hp154 => ?_)
  obtain ⟨z154, s154, e154, rfl, rfl, rfl⟩ := hp154
  replace hE := fon_ok e154 hE
  refine aw_aload_n dX11_writeTarga_157 rfl ?_
  refine aw_iload dX11_writeTarga_158 rfl ?_
  refine aw_if_eq (tgt := 170) dX11_writeTarga_160 (by decide) (fun c160 => ?_) (fun c160 => ?_)
  · replace hE := fit hE c160
    refine aw_iconst (v := 0) dX11_writeTarga_170 (by decide) ?_
    exact aw_lv _ (List.forall_mem_cons.mpr ⟨rfl, (List.forall_mem_cons.mpr ⟨rfl, (List.forall_mem_cons.mpr ⟨rfl, (List.forall_mem_cons.mpr ⟨rfl, (List.forall_mem_cons.mpr ⟨rfl, (List.forall_mem_cons.mpr ⟨rfl, fun _ h => absurd h List.not_mem_nil⟩)⟩)⟩)⟩)⟩)⟩) (b_X11_writeTarga_171 mo mr ms mt dd wi hi gt sp ta li sr hb n   v1 v2 v3 v4 v5 (0 : Int32) s154.1 s154.2 co _ hE hF)
  · replace hE := fif hE c160
    refine aw_bipush (v := 8) dX11_writeTarga_163 (by decide) ?_
    refine aw_iload_n dX11_writeTarga_165 rfl ?_
    refine aw_imul dX11_writeTarga_166 ?_
    refine aw_goto (tgt := 171) dX11_writeTarga_167 (by decide) ?_
    exact aw_lv _ (List.forall_mem_cons.mpr ⟨rfl, (List.forall_mem_cons.mpr ⟨rfl, (List.forall_mem_cons.mpr ⟨rfl, (List.forall_mem_cons.mpr ⟨rfl, (List.forall_mem_cons.mpr ⟨rfl, (List.forall_mem_cons.mpr ⟨rfl, fun _ h => absurd h List.not_mem_nil⟩)⟩)⟩)⟩)⟩)⟩) (b_X11_writeTarga_171 mo mr ms mt dd wi hi gt sp ta li sr hb n   v1 v2 v3 v4 v5 (8 * v3) s154.1 s154.2 co _ hE hF)
def F_X11_writeTarga_130 (dd : A) (wi : A) (hi : A)  (v1 : Int32) (v2 : Int32) (v3 : Int32) (v4 : Int32) (v5 : Int32) (t0 : Int32) (mw : MW) (mu : A) (co : A) : Out (MW × A × A) Unit := fon (F_X11_put_ t0 mw mu) (fun z130 s130 => fon (F_X11_putLow 0 2 s130.1 s130.2) (fun z136 s136 => if v4 = 0 then (F_X11_writeTarga_153 dd wi hi v1 v2 v3 v4 v5 (0 : Int32) s136.1 s136.2 co) else (F_X11_writeTarga_153 dd wi hi v1 v2 v3 v4 v5 (mw_cm s136.1) s136.1 s136.2 co)) (fun _ _ => fno)) (fun _ _ => fno)
set_option maxHeartbeats 1000000 in
set_option maxRecDepth 100000 in
theorem b_X11_writeTarga_130 (mo : MO) (mr : MR) (ms : Nat) (mt : A) (dd : A) (wi : A) (hi : A) (gt : A) (sp : A) (ta : A) (li : A) (sr : A) (hb : aH) (n : Nat)   : Q_X11_writeTarga_130 mo mr ms mt dd wi hi gt sp ta li sr hb n (F_X11_writeTarga_130 dd wi hi) := by
  intro v1 v2 v3 v4 v5 t0 mw mu co res hE hF
  unfold F_X11_writeTarga_130 at hE
  refine aw_callV dX11_writeTarga_130 at_mod cvX11_280 rfl (kF_X11_put_ mo mw mr ms mt mu dd wi hi gt sp ta li sr co hb _  t0 (fon_ne hE hF)) rfl (Nat.le_of_ble_eq_true rfl) (by decide) (by decide) (by decide) (by decide) (fun _ _ _ hf => False.elim hf) (fun r130 h130 n130 hp130 => ?_)
  obtain ⟨z130, s130, e130, rfl, rfl, rfl⟩ := hp130
  replace hE := fon_ok e130 hE
  refine aw_aload_n dX11_writeTarga_133 rfl ?_
  refine aw_iconst (v := 0) dX11_writeTarga_134 (by decide) ?_
  refine aw_iconst (v := 2) dX11_writeTarga_135 (by decide) ?_
  refine aw_callV dX11_writeTarga_136 at_mod cvX11_296 rfl (kF_X11_putLow mo s130.1 mr ms mt s130.2 dd wi hi gt sp ta li sr co hb _  0 2 (fon_ne hE hF)) rfl (Nat.le_of_ble_eq_true rfl) (by decide) (by decide) (by decide) (by decide) (fun _ _ _ hf => False.elim hf) (fun r136 h136 n136 hp136 => ?_)
  obtain ⟨z136, s136, e136, rfl, rfl, rfl⟩ := hp136
  replace hE := fon_ok e136 hE
  refine aw_aload_n dX11_writeTarga_139 rfl ?_
  refine aw_iload dX11_writeTarga_140 rfl ?_
  refine aw_if_eq (tgt := 152) dX11_writeTarga_142 (by decide) (fun c142 => ?_) (fun c142 => ?_)
  · replace hE := fit hE c142
    refine aw_iconst (v := 0) dX11_writeTarga_152 (by decide) ?_
    exact aw_lv _ (List.forall_mem_cons.mpr ⟨rfl, (List.forall_mem_cons.mpr ⟨rfl, (List.forall_mem_cons.mpr ⟨rfl, (List.forall_mem_cons.mpr ⟨rfl, (List.forall_mem_cons.mpr ⟨rfl, (List.forall_mem_cons.mpr ⟨rfl, fun _ h => absurd h List.not_mem_nil⟩)⟩)⟩)⟩)⟩)⟩) (b_X11_writeTarga_153 mo mr ms mt dd wi hi gt sp ta li sr hb n   v1 v2 v3 v4 v5 (0 : Int32) s136.1 s136.2 co _ hE hF)
  · replace hE := fif hE c142
    refine aw_aload_n dX11_writeTarga_145 rfl ?_
    refine aw_getf (v := .int (mw_cm s136.1)) dX11_writeTarga_146 flX11_262_10 at_mod rfl ?_
    refine aw_goto (tgt := 153) dX11_writeTarga_149 (by decide) ?_
    exact aw_lv _ (List.forall_mem_cons.mpr ⟨rfl, (List.forall_mem_cons.mpr ⟨rfl, (List.forall_mem_cons.mpr ⟨rfl, (List.forall_mem_cons.mpr ⟨rfl, (List.forall_mem_cons.mpr ⟨rfl, (List.forall_mem_cons.mpr ⟨rfl, fun _ h => absurd h List.not_mem_nil⟩)⟩)⟩)⟩)⟩)⟩) (b_X11_writeTarga_153 mo mr ms mt dd wi hi gt sp ta li sr hb n   v1 v2 v3 v4 v5 (mw_cm s136.1) s136.1 s136.2 co _ hE hF)
def F_X11_writeTarga_72 (dd : A) (wi : A) (hi : A)  (v1 : Int32) (v2 : Int32) (v3 : Int32) (v4 : Int32) (v5 : Int32) (t0 : Int32) (mw : MW) (mu : A) (co : A) : Out (MW × A × A) Unit := fon (F_X11_put_ t0 mw mu) (fun z72 s72 => if v2 = 10 then (F_X11_writeTarga_130 dd wi hi v1 v2 v3 v4 v5 (2 : Int32) s72.1 s72.2 co) else (if v2 = 11 then (F_X11_writeTarga_130 dd wi hi v1 v2 v3 v4 v5 (10 : Int32) s72.1 s72.2 co) else (if v2 = 12 then (F_X11_writeTarga_130 dd wi hi v1 v2 v3 v4 v5 (3 : Int32) s72.1 s72.2 co) else (if v2 = 13 then (F_X11_writeTarga_130 dd wi hi v1 v2 v3 v4 v5 (11 : Int32) s72.1 s72.2 co) else (if v2 = 14 then (F_X11_writeTarga_130 dd wi hi v1 v2 v3 v4 v5 (1 : Int32) s72.1 s72.2 co) else (F_X11_writeTarga_130 dd wi hi v1 v2 v3 v4 v5 (9 : Int32) s72.1 s72.2 co)))))) (fun _ _ => fno)
set_option maxHeartbeats 1000000 in
set_option maxRecDepth 100000 in
theorem b_X11_writeTarga_72 (mo : MO) (mr : MR) (ms : Nat) (mt : A) (dd : A) (wi : A) (hi : A) (gt : A) (sp : A) (ta : A) (li : A) (sr : A) (hb : aH) (n : Nat)   : Q_X11_writeTarga_72 mo mr ms mt dd wi hi gt sp ta li sr hb n (F_X11_writeTarga_72 dd wi hi) := by
  intro v1 v2 v3 v4 v5 t0 mw mu co res hE hF
  unfold F_X11_writeTarga_72 at hE
  refine aw_callV dX11_writeTarga_72 at_mod cvX11_280 rfl (kF_X11_put_ mo mw mr ms mt mu dd wi hi gt sp ta li sr co hb _  t0 (fon_ne hE hF)) rfl (Nat.le_of_ble_eq_true rfl) (by decide) (by decide) (by decide) (by decide) (fun _ _ _ hf => False.elim hf) (fun r72 h72 n72 hp72 => ?_)
  obtain ⟨z72, s72, e72, rfl, rfl, rfl⟩ := hp72
  replace hE := fon_ok e72 hE
  refine aw_aload_n dX11_writeTarga_75 rfl ?_
  refine aw_iload_n dX11_writeTarga_76 rfl ?_
  refine aw_bipush (v := 10) dX11_writeTarga_77 (by decide) ?_
  refine aw_icmp_ne (tgt := 86) dX11_writeTarga_79 (by decide) (fun c79 => ?_) (fun c79 => ?_)
  · replace hE := fif hE c79
    refine aw_iload_n dX11_writeTarga_86 rfl ?_
    refine aw_bipush (v := 11) dX11_writeTarga_87 (by decide) ?_
    refine aw_icmp_ne (tgt := 97) dX11_writeTarga_89 (by decide) (fun c89 => ?_) (fun c89 => ?_)
    · replace hE := fif hE c89
      refine aw_iload_n dX11_writeTarga_97 rfl ?_
      refine aw_bipush (v := 12) dX11_writeTarga_98 (by decide) ?_
      refine aw_icmp_ne (tgt := 107) dX11_writeTarga_100 (by decide) (fun c100 => ?_) (fun c100 => ?_)
      · replace hE := fif hE c100
        refine aw_iload_n dX11_writeTarga_107 rfl ?_
        refine aw_bipush (v := 13) dX11_writeTarga_108 (by decide) ?_
        refine aw_icmp_ne (tgt := 118) dX11_writeTarga_110 (by decide) (fun c110 => ?_) (fun c110 => ?_)
        · replace hE := fif hE c110
          refine aw_iload_n dX11_writeTarga_118 rfl ?_
          refine aw_bipush (v := 14) dX11_writeTarga_119 (by decide) ?_
          refine aw_icmp_ne (tgt := 128) dX11_writeTarga_121 (by decide) (fun c121 => ?_) (fun c121 => ?_)
          · replace hE := fif hE c121
            refine aw_bipush (v := 9) dX11_writeTarga_128 (by decide) ?_
            exact aw_lv _ (List.forall_mem_cons.mpr ⟨rfl, (List.forall_mem_cons.mpr ⟨rfl, (List.forall_mem_cons.mpr ⟨rfl, (List.forall_mem_cons.mpr ⟨rfl, (List.forall_mem_cons.mpr ⟨rfl, (List.forall_mem_cons.mpr ⟨rfl, fun _ h => absurd h List.not_mem_nil⟩)⟩)⟩)⟩)⟩)⟩) (b_X11_writeTarga_130 mo mr ms mt dd wi hi gt sp ta li sr hb n   v1 v2 v3 v4 v5 (9 : Int32) s72.1 s72.2 co _ hE hF)
          · replace hE := fit hE c121
            refine aw_iconst (v := 1) dX11_writeTarga_124 (by decide) ?_
            refine aw_goto (tgt := 130) dX11_writeTarga_125 (by decide) ?_
            exact aw_lv _ (List.forall_mem_cons.mpr ⟨rfl, (List.forall_mem_cons.mpr ⟨rfl, (List.forall_mem_cons.mpr ⟨rfl, (List.forall_mem_cons.mpr ⟨rfl, (List.forall_mem_cons.mpr ⟨rfl, (List.forall_mem_cons.mpr ⟨rfl, fun _ h => absurd h List.not_mem_nil⟩)⟩)⟩)⟩)⟩)⟩) (b_X11_writeTarga_130 mo mr ms mt dd wi hi gt sp ta li sr hb n   v1 v2 v3 v4 v5 (1 : Int32) s72.1 s72.2 co _ hE hF)
        · replace hE := fit hE c110
          refine aw_bipush (v := 11) dX11_writeTarga_113 (by decide) ?_
          refine aw_goto (tgt := 130) dX11_writeTarga_115 (by decide) ?_
          exact aw_lv _ (List.forall_mem_cons.mpr ⟨rfl, (List.forall_mem_cons.mpr ⟨rfl, (List.forall_mem_cons.mpr ⟨rfl, (List.forall_mem_cons.mpr ⟨rfl, (List.forall_mem_cons.mpr ⟨rfl, (List.forall_mem_cons.mpr ⟨rfl, fun _ h => absurd h List.not_mem_nil⟩)⟩)⟩)⟩)⟩)⟩) (b_X11_writeTarga_130 mo mr ms mt dd wi hi gt sp ta li sr hb n   v1 v2 v3 v4 v5 (11 : Int32) s72.1 s72.2 co _ hE hF)
      · replace hE := fit hE c100
        refine aw_iconst (v := 3) dX11_writeTarga_103 (by decide) ?_
        refine aw_goto (tgt := 130) dX11_writeTarga_104 (by decide) ?_
        exact aw_lv _ (List.forall_mem_cons.mpr ⟨rfl, (List.forall_mem_cons.mpr ⟨rfl, (List.forall_mem_cons.mpr ⟨rfl, (List.forall_mem_cons.mpr ⟨rfl, (List.forall_mem_cons.mpr ⟨rfl, (List.forall_mem_cons.mpr ⟨rfl, fun _ h => absurd h List.not_mem_nil⟩)⟩)⟩)⟩)⟩)⟩) (b_X11_writeTarga_130 mo mr ms mt dd wi hi gt sp ta li sr hb n   v1 v2 v3 v4 v5 (3 : Int32) s72.1 s72.2 co _ hE hF)
    · replace hE := fit hE c89
      refine aw_bipush (v := 10) dX11_writeTarga_92 (by decide) ?_
      refine aw_goto (tgt := 130) dX11_writeTarga_94 (by decide) ?_
      exact aw_lv _ (List.forall_mem_cons.mpr ⟨rfl, (List.forall_mem_cons.mpr ⟨rfl, (List.forall_mem_cons.mpr ⟨rfl, (List.forall_mem_cons.mpr ⟨rfl, (List.forall_mem_cons.mpr ⟨rfl, (List.forall_mem_cons.mpr ⟨rfl, fun _ h => absurd h List.not_mem_nil⟩)⟩)⟩)⟩)⟩)⟩) (b_X11_writeTarga_130 mo mr ms mt dd wi hi gt sp ta li sr hb n   v1 v2 v3 v4 v5 (10 : Int32) s72.1 s72.2 co _ hE hF)
  · replace hE := fit hE c79
    refine aw_iconst (v := 2) dX11_writeTarga_82 (by decide) ?_
    refine aw_goto (tgt := 130) dX11_writeTarga_83 (by decide) ?_
    exact aw_lv _ (List.forall_mem_cons.mpr ⟨rfl, (List.forall_mem_cons.mpr ⟨rfl, (List.forall_mem_cons.mpr ⟨rfl, (List.forall_mem_cons.mpr ⟨rfl, (List.forall_mem_cons.mpr ⟨rfl, (List.forall_mem_cons.mpr ⟨rfl, fun _ h => absurd h List.not_mem_nil⟩)⟩)⟩)⟩)⟩)⟩) (b_X11_writeTarga_130 mo mr ms mt dd wi hi gt sp ta li sr hb n   v1 v2 v3 v4 v5 (2 : Int32) s72.1 s72.2 co _ hE hF)
def F_X11_writeTarga_56 (dd : A) (wi : A) (hi : A)  (v1 : Int32) (v2 : Int32) (v3 : Int32) (v4 : Int32) (v5 : Int32) (mw : MW) (mu : A) (co : A) : Out (MW × A × A) Unit := fon (F_X11_put_ 0 mw mu) (fun z58 s58 => if v4 = 0 then (F_X11_writeTarga_72 dd wi hi v1 v2 v3 v4 v5 (0 : Int32) s58.1 s58.2 co) else (F_X11_writeTarga_72 dd wi hi v1 v2 v3 v4 v5 (1 : Int32) s58.1 s58.2 co)) (fun _ _ => fno)
set_option maxHeartbeats 1000000 in
set_option maxRecDepth 100000 in
theorem b_X11_writeTarga_56 (mo : MO) (mr : MR) (ms : Nat) (mt : A) (dd : A) (wi : A) (hi : A) (gt : A) (sp : A) (ta : A) (li : A) (sr : A) (hb : aH) (n : Nat)   : Q_X11_writeTarga_56 mo mr ms mt dd wi hi gt sp ta li sr hb n (F_X11_writeTarga_56 dd wi hi) := by
  intro v1 v2 v3 v4 v5 mw mu co res hE hF
  unfold F_X11_writeTarga_56 at hE
  refine aw_aload_n dX11_writeTarga_56 rfl ?_
  refine aw_iconst (v := 0) dX11_writeTarga_57 (by decide) ?_
  refine aw_callV dX11_writeTarga_58 at_mod cvX11_280 rfl (kF_X11_put_ mo mw mr ms mt mu dd wi hi gt sp ta li sr co hb _  0 (fon_ne hE hF)) rfl (Nat.le_of_ble_eq_true rfl) (by decide) (by decide) (by decide) (by decide) (fun _ _ _ hf => False.elim hf) (fun r58 h58 n58 hp58 => ?_)
  obtain ⟨z58, s58, e58, rfl, rfl, rfl⟩ := hp58
  replace hE := fon_ok e58 hE
  refine aw_aload_n dX11_writeTarga_61 rfl ?_
  refine aw_iload dX11_writeTarga_62 rfl ?_
  refine aw_if_eq (tgt := 71) dX11_writeTarga_64 (by decide) (fun c64 => ?_) (fun c64 => ?_)
  · replace hE := fit hE c64
    refine aw_iconst (v := 0) dX11_writeTarga_71 (by decide) ?_
    exact aw_lv _ (List.forall_mem_cons.mpr ⟨rfl, (List.forall_mem_cons.mpr ⟨rfl, (List.forall_mem_cons.mpr ⟨rfl, (List.forall_mem_cons.mpr ⟨rfl, (List.forall_mem_cons.mpr ⟨rfl, (List.forall_mem_cons.mpr ⟨rfl, fun _ h => absurd h List.not_mem_nil⟩)⟩)⟩)⟩)⟩)⟩) (b_X11_writeTarga_72 mo mr ms mt dd wi hi gt sp ta li sr hb n   v1 v2 v3 v4 v5 (0 : Int32) s58.1 s58.2 co _ hE hF)
  · replace hE := fif hE c64
    refine aw_iconst (v := 1) dX11_writeTarga_67 (by decide) ?_
    refine aw_goto (tgt := 72) dX11_writeTarga_68 (by decide) ?_
    exact aw_lv _ (List.forall_mem_cons.mpr ⟨rfl, (List.forall_mem_cons.mpr ⟨rfl, (List.forall_mem_cons.mpr ⟨rfl, (List.forall_mem_cons.mpr ⟨rfl, (List.forall_mem_cons.mpr ⟨rfl, (List.forall_mem_cons.mpr ⟨rfl, fun _ h => absurd h List.not_mem_nil⟩)⟩)⟩)⟩)⟩)⟩) (b_X11_writeTarga_72 mo mr ms mt dd wi hi gt sp ta li sr hb n   v1 v2 v3 v4 v5 (1 : Int32) s58.1 s58.2 co _ hE hF)
def F_X11_writeTarga_44 (dd : A) (wi : A) (hi : A)  (v1 : Int32) (v2 : Int32) (v3 : Int32) (v4 : Int32) (t0 : Int32) (mw : MW) (mu : A) (co : A) : Out (MW × A × A) Unit := if v4 = 0 then (F_X11_writeTarga_56 dd wi hi v1 v2 v3 v4 t0 mw mu co) else (fon (F_X11_listColours v1 mw dd wi hi co) (fun z53 s53 => F_X11_writeTarga_56 dd wi hi v1 v2 v3 v4 t0 s53.1 mu s53.2) (fun _ _ => fno))
set_option maxHeartbeats 1000000 in
set_option maxRecDepth 100000 in
theorem b_X11_writeTarga_44 (mo : MO) (mr : MR) (ms : Nat) (mt : A) (dd : A) (wi : A) (hi : A) (gt : A) (sp : A) (ta : A) (li : A) (sr : A) (hb : aH) (n : Nat)   : Q_X11_writeTarga_44 mo mr ms mt dd wi hi gt sp ta li sr hb n (F_X11_writeTarga_44 dd wi hi) := by
  intro v1 v2 v3 v4 t0 mw mu co res hE hF
  unfold F_X11_writeTarga_44 at hE
  refine aw_istore (lv2 := [(5, _), (0, _), (1, _), (2, _), (3, _), (4, _)]) dX11_writeTarga_44 (by decide) rfl ?_
  refine aw_iload dX11_writeTarga_46 rfl ?_
  refine aw_if_eq (tgt := 56) dX11_writeTarga_48 (by decide) (fun c48 => ?_) (fun c48 => ?_)
  · replace hE := fit hE c48
    exact aw_lv _ (List.forall_mem_cons.mpr ⟨rfl, (List.forall_mem_cons.mpr ⟨rfl, (List.forall_mem_cons.mpr ⟨rfl, (List.forall_mem_cons.mpr ⟨rfl, (List.forall_mem_cons.mpr ⟨rfl, (List.forall_mem_cons.mpr ⟨rfl, fun _ h => absurd h List.not_mem_nil⟩)⟩)⟩)⟩)⟩)⟩) (b_X11_writeTarga_56 mo mr ms mt dd wi hi gt sp ta li sr hb n   v1 v2 v3 v4 t0 mw mu co _ hE hF)
  · replace hE := fif hE c48
    refine aw_aload_n dX11_writeTarga_51 rfl ?_
    refine aw_iload_n dX11_writeTarga_52 rfl ?_
    refine aw_callV dX11_writeTarga_53 at_mod cvX11_293 rfl (kF_X11_listColours mo mw mr ms mt mu dd wi hi gt sp ta li sr co hb _  v1 (fon_ne hE hF)) rfl (Nat.le_of_ble_eq_true rfl) (by decide) (by decide) (by decide) (by decide) (fun _ _ _ hf => False.elim hf) (fun r53 h53 n53 hp53 => ?_)
    obtain ⟨z53, s53, e53, rfl, rfl, rfl⟩ := hp53
    replace hE := fon_ok e53 hE
    exact aw_lv _ (List.forall_mem_cons.mpr ⟨rfl, (List.forall_mem_cons.mpr ⟨rfl, (List.forall_mem_cons.mpr ⟨rfl, (List.forall_mem_cons.mpr ⟨rfl, (List.forall_mem_cons.mpr ⟨rfl, (List.forall_mem_cons.mpr ⟨rfl, fun _ h => absurd h List.not_mem_nil⟩)⟩)⟩)⟩)⟩)⟩) (b_X11_writeTarga_56 mo mr ms mt dd wi hi gt sp ta li sr hb n   v1 v2 v3 v4 t0 s53.1 mu s53.2 _ hE hF)
def F_X11_writeTarga_39 (dd : A) (wi : A) (hi : A)  (v1 : Int32) (v2 : Int32) (v3 : Int32) (v4 : Int32) (mw : MW) (mu : A) (co : A) : Out (MW × A × A) Unit := F_X11_writeTarga_44 dd wi hi v1 v2 v3 v4 (1 : Int32) mw mu co
set_option maxHeartbeats 1000000 in
set_option maxRecDepth 100000 in
theorem b_X11_writeTarga_39 (mo : MO) (mr : MR) (ms : Nat) (mt : A) (dd : A) (wi : A) (hi : A) (gt : A) (sp : A) (ta : A) (li : A) (sr : A) (hb : aH) (n : Nat)   : Q_X11_writeTarga_39 mo mr ms mt dd wi hi gt sp ta li sr hb n (F_X11_writeTarga_39 dd wi hi) := by
  intro v1 v2 v3 v4 mw mu co res hE hF
  unfold F_X11_writeTarga_39 at hE
  refine aw_iconst (v := 1) dX11_writeTarga_39 (by decide) ?_
  refine aw_goto (tgt := 44) dX11_writeTarga_40 (by decide) ?_
  exact aw_lv _ (List.forall_mem_cons.mpr ⟨rfl, (List.forall_mem_cons.mpr ⟨rfl, (List.forall_mem_cons.mpr ⟨rfl, (List.forall_mem_cons.mpr ⟨rfl, (List.forall_mem_cons.mpr ⟨rfl, fun _ h => absurd h List.not_mem_nil⟩)⟩)⟩)⟩)⟩) (b_X11_writeTarga_44 mo mr ms mt dd wi hi gt sp ta li sr hb n   v1 v2 v3 v4 (1 : Int32) mw mu co _ hE hF)
def F_X11_writeTarga_25 (dd : A) (wi : A) (hi : A)  (v1 : Int32) (v2 : Int32) (v3 : Int32) (t0 : Int32) (mw : MW) (mu : A) (co : A) : Out (MW × A × A) Unit := if v2 = 12 then (F_X11_writeTarga_39 dd wi hi v1 v2 v3 t0 mw mu co) else (if v2 = 13 then (F_X11_writeTarga_39 dd wi hi v1 v2 v3 t0 mw mu co) else (F_X11_writeTarga_44 dd wi hi v1 v2 v3 t0 (0 : Int32) mw mu co))
set_option maxHeartbeats 1000000 in
set_option maxRecDepth 100000 in
theorem b_X11_writeTarga_25 (mo : MO) (mr : MR) (ms : Nat) (mt : A) (dd : A) (wi : A) (hi : A) (gt : A) (sp : A) (ta : A) (li : A) (sr : A) (hb : aH) (n : Nat)   : Q_X11_writeTarga_25 mo mr ms mt dd wi hi gt sp ta li sr hb n (F_X11_writeTarga_25 dd wi hi) := by
  intro v1 v2 v3 t0 mw mu co res hE hF
  unfold F_X11_writeTarga_25 at hE
  refine aw_istore (lv2 := [(4, _), (0, _), (1, _), (2, _), (3, _)]) dX11_writeTarga_25 (by decide) rfl ?_
  refine aw_iload_n dX11_writeTarga_27 rfl ?_
  refine aw_bipush (v := 12) dX11_writeTarga_28 (by decide) ?_
  refine aw_icmp_eq (tgt := 39) dX11_writeTarga_30 (by decide) (fun c30 => ?_) (fun c30 => ?_)
  · replace hE := fit hE c30
    exact aw_lv _ (List.forall_mem_cons.mpr ⟨rfl, (List.forall_mem_cons.mpr ⟨rfl, (List.forall_mem_cons.mpr ⟨rfl, (List.forall_mem_cons.mpr ⟨rfl, (List.forall_mem_cons.mpr ⟨rfl, fun _ h => absurd h List.not_mem_nil⟩)⟩)⟩)⟩)⟩) (b_X11_writeTarga_39 mo mr ms mt dd wi hi gt sp ta li sr hb n   v1 v2 v3 t0 mw mu co _ hE hF)
  · replace hE := fif hE c30
    refine aw_iload_n dX11_writeTarga_33 rfl ?_
    refine aw_bipush (v := 13) dX11_writeTarga_34 (by decide) ?_
    refine aw_icmp_ne (tgt := 43) dX11_writeTarga_36 (by decide) (fun c36 => ?_) (fun c36 => ?_)
    · replace hE := fif hE c36
      refine aw_iconst (v := 0) dX11_writeTarga_43 (by decide) ?_
      exact aw_lv _ (List.forall_mem_cons.mpr ⟨rfl, (List.forall_mem_cons.mpr ⟨rfl, (List.forall_mem_cons.mpr ⟨rfl, (List.forall_mem_cons.mpr ⟨rfl, (List.forall_mem_cons.mpr ⟨rfl, fun _ h => absurd h List.not_mem_nil⟩)⟩)⟩)⟩)⟩) (b_X11_writeTarga_44 mo mr ms mt dd wi hi gt sp ta li sr hb n   v1 v2 v3 t0 (0 : Int32) mw mu co _ hE hF)
    · replace hE := fit hE c36
      exact aw_lv _ (List.forall_mem_cons.mpr ⟨rfl, (List.forall_mem_cons.mpr ⟨rfl, (List.forall_mem_cons.mpr ⟨rfl, (List.forall_mem_cons.mpr ⟨rfl, (List.forall_mem_cons.mpr ⟨rfl, fun _ h => absurd h List.not_mem_nil⟩)⟩)⟩)⟩)⟩) (b_X11_writeTarga_39 mo mr ms mt dd wi hi gt sp ta li sr hb n   v1 v2 v3 t0 mw mu co _ hE hF)
def F_X11_writeTarga_13 (dd : A) (wi : A) (hi : A)  (v1 : Int32) (v2 : Int32) (t0 : Int32) (mw : MW) (mu : A) (co : A) : Out (MW × A × A) Unit := if v2 < 14 then (F_X11_writeTarga_25 dd wi hi v1 v2 t0 (0 : Int32) mw mu co) else (F_X11_writeTarga_25 dd wi hi v1 v2 t0 (1 : Int32) mw mu co)
set_option maxHeartbeats 1000000 in
set_option maxRecDepth 100000 in
theorem b_X11_writeTarga_13 (mo : MO) (mr : MR) (ms : Nat) (mt : A) (dd : A) (wi : A) (hi : A) (gt : A) (sp : A) (ta : A) (li : A) (sr : A) (hb : aH) (n : Nat)   : Q_X11_writeTarga_13 mo mr ms mt dd wi hi gt sp ta li sr hb n (F_X11_writeTarga_13 dd wi hi) := by
  intro v1 v2 t0 mw mu co res hE hF
  unfold F_X11_writeTarga_13 at hE
  refine aw_istore_n (lv2 := [(3, _), (0, _), (1, _), (2, _)]) dX11_writeTarga_13 (by decide) rfl ?_
  refine aw_iload_n dX11_writeTarga_14 rfl ?_
  refine aw_bipush (v := 14) dX11_writeTarga_15 (by decide) ?_
  refine aw_icmp_lt (tgt := 24) dX11_writeTarga_17 (by decide) (fun c17 => ?_) (fun c17 => ?_)
  · replace hE := fit hE c17
    refine aw_iconst (v := 0) dX11_writeTarga_24 (by decide) ?_
    exact aw_lv _ (List.forall_mem_cons.mpr ⟨rfl, (List.forall_mem_cons.mpr ⟨rfl, (List.forall_mem_cons.mpr ⟨rfl, (List.forall_mem_cons.mpr ⟨rfl, fun _ h => absurd h List.not_mem_nil⟩)⟩)⟩)⟩) (b_X11_writeTarga_25 mo mr ms mt dd wi hi gt sp ta li sr hb n   v1 v2 t0 (0 : Int32) mw mu co _ hE hF)
  · replace hE := fif hE c17
    refine aw_iconst (v := 1) dX11_writeTarga_20 (by decide) ?_
    refine aw_goto (tgt := 25) dX11_writeTarga_21 (by decide) ?_
    exact aw_lv _ (List.forall_mem_cons.mpr ⟨rfl, (List.forall_mem_cons.mpr ⟨rfl, (List.forall_mem_cons.mpr ⟨rfl, (List.forall_mem_cons.mpr ⟨rfl, fun _ h => absurd h List.not_mem_nil⟩)⟩)⟩)⟩) (b_X11_writeTarga_25 mo mr ms mt dd wi hi gt sp ta li sr hb n   v1 v2 t0 (1 : Int32) mw mu co _ hE hF)
def F_X11_writeTarga (a1 : Int32) (a2 : Int32) (mw : MW) (mu : A) (dd : A) (wi : A) (hi : A) (co : A) : Out (MW × A × A) Unit := fon (F_X11_isOpaque a1 dd wi hi) (fun z2 s2 => if z2 = 0 then (F_X11_writeTarga_13 dd wi hi a1 a2 (4 : Int32) mw mu co) else (F_X11_writeTarga_13 dd wi hi a1 a2 (3 : Int32) mw mu co)) (fun _ _ => fno)
set_option maxHeartbeats 1000000 in
set_option maxRecDepth 100000 in
theorem kF_X11_writeTarga (mo : MO) (mw : MW) (mr : MR) (ms : Nat) (mt : A) (mu : A) (dd : A) (wi : A) (hi : A) (gt : A) (sp : A) (ta : A) (li : A) (sr : A) (co : A) (hb : aH) (n : Nat)  (a1 : Int32) (a2 : Int32) (hF : F_X11_writeTarga a1 a2 mw mu dd wi hi co ≠ fno) : AM mX11_writeTarga 3 [.ref 31, .int a1, .int a2] (HM mo mw mr ms mt mu dd wi hi gt sp ta li sr co hb) n 0 0 0 0 (P_X11_writeTarga mo mr ms mt dd wi hi gt sp ta li sr hb n (F_X11_writeTarga a1 a2 mw mu dd wi hi co)) (fun _ _ _ => False) := by
  generalize hE : F_X11_writeTarga a1 a2 mw mu dd wi hi co = res at hF ⊢
  refine aw_of (by decide +kernel) rfl (Nat.le_of_ble_eq_true rfl) ?_
  unfold F_X11_writeTarga at hE
  refine aw_aload_n dX11_writeTarga_0 rfl ?_
  refine aw_iload_n dX11_writeTarga_1 rfl ?_
  refine aw_callV dX11_writeTarga_2 at_mod cvX11_271 rfl (kF_X11_isOpaque mo mw mr ms mt mu dd wi hi gt sp ta li sr co hb _  a1 (fon_ne hE hF)) rfl (Nat.le_of_ble_eq_true rfl) (by decide) (by decide) (by decide) (by decide) (fun _ _ _ hf => False.elim hf) (fun r2 h2 n2 hp2 => ?_)
  obtain ⟨z2, s2, e2, rfl, rfl, rfl⟩ := hp2
  replace hE := fon_ok e2 hE
  refine aw_if_eq (tgt := 12) dX11_writeTarga_5 (by decide) (fun c5 => ?_) (fun c5 => ?_)
  · replace hE := fit hE c5
    refine aw_iconst (v := 4) dX11_writeTarga_12 (by decide) ?_
    exact aw_lv _ (List.forall_mem_cons.mpr ⟨rfl, (List.forall_mem_cons.mpr ⟨rfl, (List.forall_mem_cons.mpr ⟨rfl, fun _ h => absurd h List.not_mem_nil⟩)⟩)⟩) (b_X11_writeTarga_13 mo mr ms mt dd wi hi gt sp ta li sr hb n   a1 a2 (4 : Int32) mw mu co _ hE hF)
  · replace hE := fif hE c5
    refine aw_iconst (v := 3) dX11_writeTarga_8 (by decide) ?_
    refine aw_goto (tgt := 13) dX11_writeTarga_9 (by decide) ?_
    exact aw_lv _ (List.forall_mem_cons.mpr ⟨rfl, (List.forall_mem_cons.mpr ⟨rfl, (List.forall_mem_cons.mpr ⟨rfl, fun _ h => absurd h List.not_mem_nil⟩)⟩)⟩) (b_X11_writeTarga_13 mo mr ms mt dd wi hi gt sp ta li sr hb n   a1 a2 (3 : Int32) mw mu co _ hE hF)
