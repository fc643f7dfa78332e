/-- arrays of an object that lie at fixed offsets behind it: field, offset, sort, length -/
def LayA (w : Wd) (a : Nat) (l : List (Nat × Nat × Nat × Nat)) : Prop := ∀ q ∈ l, wR w a q.1 = some (a + q.2.1) ∧ wK w (a + q.2.1) = some (.inr (q.2.2.1, q.2.2.2))
def tabR : List (Nat × Nat × Nat × Nat) := [(0, 1, 2, 408), (1, 2, 1, 4), (2, 3, 1, 4), (3, 4, 0, 4), (4, 5, 0, 4), (5, 6, 0, 4), (6, 7, 0, 4), (7, 8, 0, 4), (8, 9, 1, 4), (9, 10, 0, 16), (10, 11, 1, 16), (11, 12, 0, 64), (13, 13, 0, 60), (14, 14, 0, 60), (15, 15, 0, 60), (17, 16, 0, 40), (18, 17, 0, 40), (19, 18, 1, 40), (22, 19, 2, 4), (23, 20, 2, 4), (28, 21, 2, 4), (29, 22, 2, 2020)]
def tabM : List (Nat × Nat × Nat × Nat) := [(0, 1, 0, 4), (1, 2, 2, 4), (2, 3, 1, 8), (3, 4, 1, 8), (4, 5, 0, 8), (5, 6, 0, 12)]
def tabT : List (Nat × Nat × Nat × Nat) := [(0, 1, 0, 4), (1, 2, 0, 4)]
/-- the reference's object -/
def LayR (w : Wd) (a : Nat) : Prop := wK w a = some (.inl 10) ∧ LayA w a tabR
/-- a motion -/
def LayT (w : Wd) (p : Nat) : Prop := wK w p = some (.inl 4) ∧ LayA w p tabT
/-- a moment -/
def LayM (w : Wd) (m : Nat) : Prop := wK w m = some (.inl 3) ∧ LayA w m tabM ∧ wR w m 6 = some (m + 7) ∧ LayT w (m + 7)
theorem lk_R {w : Wd} {a : Nat} (h : LayR w a) : wK w a = some (.inl 10) := h.1
theorem lk_T {w : Wd} {a : Nat} (h : LayT w a) : wK w a = some (.inl 4) := h.1
theorem lk_M {w : Wd} {a : Nat} (h : LayM w a) : wK w a = some (.inl 3) := h.1
theorem lm_6 {w : Wd} {a : Nat} (h : LayM w a) : wR w a 6 = some (a + 7) := h.2.2.1
theorem lm_T {w : Wd} {a : Nat} (h : LayM w a) : LayT w (a + 7) := h.2.2.2
theorem lr_row {w : Wd} {a : Nat} (h : LayR w a) : wR w a 0 = some (a + 1) := (h.2 (0, 1, 2, 408) (by decide)).1
theorem lq_row {w : Wd} {a : Nat} (h : LayR w a) : wK w (a + 1) = some (.inr (2, 408)) := (h.2 (0, 1, 2, 408) (by decide)).2
theorem lr_isKept {w : Wd} {a : Nat} (h : LayR w a) : wR w a 1 = some (a + 2) := (h.2 (1, 2, 1, 4) (by decide)).1
theorem lq_isKept {w : Wd} {a : Nat} (h : LayR w a) : wK w (a + 2) = some (.inr (1, 4)) := (h.2 (1, 2, 1, 4) (by decide)).2
theorem lr_slides {w : Wd} {a : Nat} (h : LayR w a) : wR w a 2 = some (a + 3) := (h.2 (2, 3, 1, 4) (by decide)).1
theorem lq_slides {w : Wd} {a : Nat} (h : LayR w a) : wK w (a + 3) = some (.inr (1, 4)) := (h.2 (2, 3, 1, 4) (by decide)).2
theorem lr_length {w : Wd} {a : Nat} (h : LayR w a) : wR w a 3 = some (a + 4) := (h.2 (3, 4, 0, 4) (by decide)).1
theorem lq_length {w : Wd} {a : Nat} (h : LayR w a) : wK w (a + 4) = some (.inr (0, 4)) := (h.2 (3, 4, 0, 4) (by decide)).2
theorem lr_low {w : Wd} {a : Nat} (h : LayR w a) : wR w a 4 = some (a + 5) := (h.2 (4, 5, 0, 4) (by decide)).1
theorem lq_low {w : Wd} {a : Nat} (h : LayR w a) : wK w (a + 5) = some (.inr (0, 4)) := (h.2 (4, 5, 0, 4) (by decide)).2
theorem lr_high {w : Wd} {a : Nat} (h : LayR w a) : wR w a 5 = some (a + 6) := (h.2 (5, 6, 0, 4) (by decide)).1
theorem lq_high {w : Wd} {a : Nat} (h : LayR w a) : wK w (a + 6) = some (.inr (0, 4)) := (h.2 (5, 6, 0, 4) (by decide)).2
theorem lr_pace {w : Wd} {a : Nat} (h : LayR w a) : wR w a 6 = some (a + 7) := (h.2 (6, 7, 0, 4) (by decide)).1
theorem lq_pace {w : Wd} {a : Nat} (h : LayR w a) : wK w (a + 7) = some (.inr (0, 4)) := (h.2 (6, 7, 0, 4) (by decide)).2
theorem lr_rise {w : Wd} {a : Nat} (h : LayR w a) : wR w a 7 = some (a + 8) := (h.2 (7, 8, 0, 4) (by decide)).1
theorem lq_rise {w : Wd} {a : Nat} (h : LayR w a) : wK w (a + 8) = some (.inr (0, 4)) := (h.2 (7, 8, 0, 4) (by decide)).2
theorem lr_isBox {w : Wd} {a : Nat} (h : LayR w a) : wR w a 8 = some (a + 9) := (h.2 (8, 9, 1, 4) (by decide)).1
theorem lq_isBox {w : Wd} {a : Nat} (h : LayR w a) : wK w (a + 9) = some (.inr (1, 4)) := (h.2 (8, 9, 1, 4) (by decide)).2
theorem lr_box {w : Wd} {a : Nat} (h : LayR w a) : wR w a 9 = some (a + 10) := (h.2 (9, 10, 0, 16) (by decide)).1
theorem lq_box {w : Wd} {a : Nat} (h : LayR w a) : wK w (a + 10) = some (.inr (0, 16)) := (h.2 (9, 10, 0, 16) (by decide)).2
theorem lr_isTaught {w : Wd} {a : Nat} (h : LayR w a) : wR w a 10 = some (a + 11) := (h.2 (10, 11, 1, 16) (by decide)).1
theorem lq_isTaught {w : Wd} {a : Nat} (h : LayR w a) : wK w (a + 11) = some (.inr (1, 16)) := (h.2 (10, 11, 1, 16) (by decide)).2
theorem lr_pose {w : Wd} {a : Nat} (h : LayR w a) : wR w a 11 = some (a + 12) := (h.2 (11, 12, 0, 64) (by decide)).1
theorem lq_pose {w : Wd} {a : Nat} (h : LayR w a) : wK w (a + 12) = some (.inr (0, 64)) := (h.2 (11, 12, 0, 64) (by decide)).2
theorem lr_op {w : Wd} {a : Nat} (h : LayR w a) : wR w a 13 = some (a + 13) := (h.2 (13, 13, 0, 60) (by decide)).1
theorem lq_op {w : Wd} {a : Nat} (h : LayR w a) : wK w (a + 13) = some (.inr (0, 60)) := (h.2 (13, 13, 0, 60) (by decide)).2
theorem lr_first {w : Wd} {a : Nat} (h : LayR w a) : wR w a 14 = some (a + 14) := (h.2 (14, 14, 0, 60) (by decide)).1
theorem lq_first {w : Wd} {a : Nat} (h : LayR w a) : wK w (a + 14) = some (.inr (0, 60)) := (h.2 (14, 14, 0, 60) (by decide)).2
theorem lr_second {w : Wd} {a : Nat} (h : LayR w a) : wR w a 15 = some (a + 15) := (h.2 (15, 15, 0, 60) (by decide)).1
theorem lq_second {w : Wd} {a : Nat} (h : LayR w a) : wK w (a + 15) = some (.inr (0, 60)) := (h.2 (15, 15, 0, 60) (by decide)).2
theorem lr_scriptTick {w : Wd} {a : Nat} (h : LayR w a) : wR w a 17 = some (a + 16) := (h.2 (17, 16, 0, 40) (by decide)).1
theorem lq_scriptTick {w : Wd} {a : Nat} (h : LayR w a) : wK w (a + 16) = some (.inr (0, 40)) := (h.2 (17, 16, 0, 40) (by decide)).2
theorem lr_scriptInput {w : Wd} {a : Nat} (h : LayR w a) : wR w a 18 = some (a + 17) := (h.2 (18, 17, 0, 40) (by decide)).1
theorem lq_scriptInput {w : Wd} {a : Nat} (h : LayR w a) : wK w (a + 17) = some (.inr (0, 40)) := (h.2 (18, 17, 0, 40) (by decide)).2
theorem lr_scriptOn {w : Wd} {a : Nat} (h : LayR w a) : wR w a 19 = some (a + 18) := (h.2 (19, 18, 1, 40) (by decide)).1
theorem lq_scriptOn {w : Wd} {a : Nat} (h : LayR w a) : wK w (a + 18) = some (.inr (1, 40)) := (h.2 (19, 18, 1, 40) (by decide)).2
theorem lr_planFrom {w : Wd} {a : Nat} (h : LayR w a) : wR w a 22 = some (a + 19) := (h.2 (22, 19, 2, 4) (by decide)).1
theorem lq_planFrom {w : Wd} {a : Nat} (h : LayR w a) : wK w (a + 19) = some (.inr (2, 4)) := (h.2 (22, 19, 2, 4) (by decide)).2
theorem lr_planTo {w : Wd} {a : Nat} (h : LayR w a) : wR w a 23 = some (a + 20) := (h.2 (23, 20, 2, 4) (by decide)).1
theorem lq_planTo {w : Wd} {a : Nat} (h : LayR w a) : wK w (a + 20) = some (.inr (2, 4)) := (h.2 (23, 20, 2, 4) (by decide)).2
theorem lr_was {w : Wd} {a : Nat} (h : LayR w a) : wR w a 28 = some (a + 21) := (h.2 (28, 21, 2, 4) (by decide)).1
theorem lq_was {w : Wd} {a : Nat} (h : LayR w a) : wK w (a + 21) = some (.inr (2, 4)) := (h.2 (28, 21, 2, 4) (by decide)).2
theorem lr_seen {w : Wd} {a : Nat} (h : LayR w a) : wR w a 29 = some (a + 22) := (h.2 (29, 22, 2, 2020) (by decide)).1
theorem lq_seen {w : Wd} {a : Nat} (h : LayR w a) : wK w (a + 22) = some (.inr (2, 2020)) := (h.2 (29, 22, 2, 2020) (by decide)).2
theorem lm_states {w : Wd} {a : Nat} (h : LayM w a) : wR w a 0 = some (a + 1) := (h.2.1 (0, 1, 0, 4) (by decide)).1
theorem ln_states {w : Wd} {a : Nat} (h : LayM w a) : wK w (a + 1) = some (.inr (0, 4)) := (h.2.1 (0, 1, 0, 4) (by decide)).2
theorem lm_travelled {w : Wd} {a : Nat} (h : LayM w a) : wR w a 1 = some (a + 2) := (h.2.1 (1, 2, 2, 4) (by decide)).1
theorem ln_travelled {w : Wd} {a : Nat} (h : LayM w a) : wK w (a + 2) = some (.inr (2, 4)) := (h.2.1 (1, 2, 2, 4) (by decide)).2
theorem lm_inputs {w : Wd} {a : Nat} (h : LayM w a) : wR w a 2 = some (a + 3) := (h.2.1 (2, 3, 1, 8) (by decide)).1
theorem ln_inputs {w : Wd} {a : Nat} (h : LayM w a) : wK w (a + 3) = some (.inr (1, 8)) := (h.2.1 (2, 3, 1, 8) (by decide)).2
theorem lm_outs {w : Wd} {a : Nat} (h : LayM w a) : wR w a 3 = some (a + 4) := (h.2.1 (3, 4, 1, 8) (by decide)).1
theorem ln_outs {w : Wd} {a : Nat} (h : LayM w a) : wK w (a + 4) = some (.inr (1, 8)) := (h.2.1 (3, 4, 1, 8) (by decide)).2
theorem lm_registers {w : Wd} {a : Nat} (h : LayM w a) : wR w a 4 = some (a + 5) := (h.2.1 (4, 5, 0, 8) (by decide)).1
theorem ln_registers {w : Wd} {a : Nat} (h : LayM w a) : wK w (a + 5) = some (.inr (0, 8)) := (h.2.1 (4, 5, 0, 8) (by decide)).2
theorem lm_putBy {w : Wd} {a : Nat} (h : LayM w a) : wR w a 5 = some (a + 6) := (h.2.1 (5, 6, 0, 12) (by decide)).1
theorem ln_putBy {w : Wd} {a : Nat} (h : LayM w a) : wK w (a + 6) = some (.inr (0, 12)) := (h.2.1 (5, 6, 0, 12) (by decide)).2
theorem lt_from {w : Wd} {a : Nat} (h : LayT w a) : wR w a 0 = some (a + 1) := (h.2 (0, 1, 0, 4) (by decide)).1
theorem lu_from {w : Wd} {a : Nat} (h : LayT w a) : wK w (a + 1) = some (.inr (0, 4)) := (h.2 (0, 1, 0, 4) (by decide)).2
theorem lt_by {w : Wd} {a : Nat} (h : LayT w a) : wR w a 1 = some (a + 2) := (h.2 (1, 2, 0, 4) (by decide)).1
theorem lu_by {w : Wd} {a : Nat} (h : LayT w a) : wK w (a + 2) = some (.inr (0, 4)) := (h.2 (1, 2, 0, 4) (by decide)).2
def tabP : List (Nat × Nat × Nat × Nat) := [(0, 1, 0, 60), (1, 2, 0, 60), (2, 3, 0, 60)]
def tabS : List (Nat × Nat × Nat × Nat) := [(0, 1, 0, 40), (1, 2, 0, 40), (2, 3, 1, 40)]
def tabC : List (Nat × Nat × Nat × Nat) := [(0, 1, 4, 4), (1, 2, 3, 4), (2, 3, 6, 16), (6, 13, 0, 4)]
/-- the cell -/
def LayC (w : Wd) (c : Nat) : Prop := wK w c = some (.inl 1) ∧ LayA w c tabC ∧ wR w c 3 = some (c + 4) ∧ wK w (c + 4) = some (.inl 6) ∧ LayA w (c + 4) tabP ∧ wR w c 4 = some (c + 8) ∧ wK w (c + 8) = some (.inl 7) ∧ LayA w (c + 8) tabS ∧ wR w c 5 = some (c + 12) ∧ wK w (c + 12) = some (.inl 8) ∧ (∀ j, j < 4 → wR w (c + 1) j = some (c + 14 + j) ∧ wK w (c + 14 + j) = some (.inl 2)) ∧ (∀ k, k < 4 → wR w (c + 2) k = some (c + 18 + k) ∧ wK w (c + 18 + k) = some (.inl 0)) ∧ (∀ k, k < 16 → wR w (c + 3) k = some (c + 22 + 2 * k) ∧ wK w (c + 22 + 2 * k) = some (.inl 5) ∧ wR w (c + 22 + 2 * k) 1 = some (c + 23 + 2 * k) ∧ wK w (c + 23 + 2 * k) = some (.inr (0, 4)))
theorem lc_k {w : Wd} {c : Nat} (h : LayC w c) : wK w c = some (.inl 1) := h.1
theorem lc_joints {w : Wd} {c : Nat} (h : LayC w c) : wR w c 0 = some (c + 1) := (h.2.1 (0, 1, 4, 4) (by decide)).1
theorem lc_boxes {w : Wd} {c : Nat} (h : LayC w c) : wR w c 1 = some (c + 2) := (h.2.1 (1, 2, 3, 4) (by decide)).1
theorem lc_poses {w : Wd} {c : Nat} (h : LayC w c) : wR w c 2 = some (c + 3) := (h.2.1 (2, 3, 6, 16) (by decide)).1
theorem lc_tst {w : Wd} {c : Nat} (h : LayC w c) : wR w c 6 = some (c + 13) := (h.2.1 (6, 13, 0, 4) (by decide)).1
theorem lk_joints {w : Wd} {c : Nat} (h : LayC w c) : wK w (c + 1) = some (.inr (4, 4)) := (h.2.1 (0, 1, 4, 4) (by decide)).2
theorem lk_boxes {w : Wd} {c : Nat} (h : LayC w c) : wK w (c + 2) = some (.inr (3, 4)) := (h.2.1 (1, 2, 3, 4) (by decide)).2
theorem lk_poses {w : Wd} {c : Nat} (h : LayC w c) : wK w (c + 3) = some (.inr (6, 16)) := (h.2.1 (2, 3, 6, 16) (by decide)).2
theorem lk_tst {w : Wd} {c : Nat} (h : LayC w c) : wK w (c + 13) = some (.inr (0, 4)) := (h.2.1 (6, 13, 0, 4) (by decide)).2
theorem lc_prog {w : Wd} {c : Nat} (h : LayC w c) : wR w c 3 = some (c + 4) := h.2.2.1
theorem lk_prog {w : Wd} {c : Nat} (h : LayC w c) : wK w (c + 4) = some (.inl 6) := h.2.2.2.1
theorem lc_p {w : Wd} {c : Nat} (h : LayC w c) : LayA w (c + 4) tabP := h.2.2.2.2.1
theorem lc_scr {w : Wd} {c : Nat} (h : LayC w c) : wR w c 4 = some (c + 8) := h.2.2.2.2.2.1
theorem lk_scr {w : Wd} {c : Nat} (h : LayC w c) : wK w (c + 8) = some (.inl 7) := h.2.2.2.2.2.2.1
theorem lc_s {w : Wd} {c : Nat} (h : LayC w c) : LayA w (c + 8) tabS := h.2.2.2.2.2.2.2.1
theorem lc_tried {w : Wd} {c : Nat} (h : LayC w c) : wR w c 5 = some (c + 12) := h.2.2.2.2.2.2.2.2.1
theorem lk_tried {w : Wd} {c : Nat} (h : LayC w c) : wK w (c + 12) = some (.inl 8) := h.2.2.2.2.2.2.2.2.2.1
theorem lc_jo {w : Wd} {c j : Nat} (h : LayC w c) (hj : j < 4) : wR w (c + 1) j = some (c + 14 + j) := (h.2.2.2.2.2.2.2.2.2.2.1 j hj).1
theorem lk_jo {w : Wd} {c j : Nat} (h : LayC w c) (hj : j < 4) : wK w (c + 14 + j) = some (.inl 2) := (h.2.2.2.2.2.2.2.2.2.2.1 j hj).2
theorem lc_bx {w : Wd} {c k : Nat} (h : LayC w c) (hk : k < 4) : wR w (c + 2) k = some (c + 18 + k) := (h.2.2.2.2.2.2.2.2.2.2.2.1 k hk).1
theorem lk_bx {w : Wd} {c k : Nat} (h : LayC w c) (hk : k < 4) : wK w (c + 18 + k) = some (.inl 0) := (h.2.2.2.2.2.2.2.2.2.2.2.1 k hk).2
theorem lc_po {w : Wd} {c k : Nat} (h : LayC w c) (hk : k < 16) : wR w (c + 3) k = some (c + 22 + 2 * k) := (h.2.2.2.2.2.2.2.2.2.2.2.2 k hk).1
theorem lk_po {w : Wd} {c k : Nat} (h : LayC w c) (hk : k < 16) : wK w (c + 22 + 2 * k) = some (.inl 5) := (h.2.2.2.2.2.2.2.2.2.2.2.2 k hk).2.1
theorem lc_ps {w : Wd} {c k : Nat} (h : LayC w c) (hk : k < 16) : wR w (c + 22 + 2 * k) 1 = some (c + 23 + 2 * k) := (h.2.2.2.2.2.2.2.2.2.2.2.2 k hk).2.2.1
theorem lk_ps {w : Wd} {c k : Nat} (h : LayC w c) (hk : k < 16) : wK w (c + 23 + 2 * k) = some (.inr (0, 4)) := (h.2.2.2.2.2.2.2.2.2.2.2.2 k hk).2.2.2
theorem lp_r {w : Wd} {p f a t n : Nat} {l : List (Nat × Nat × Nat × Nat)} (h : LayA w p l) (hm : (f, a, t, n) ∈ l) : wR w p f = some (p + a) := (h _ hm).1
theorem lp_k {w : Wd} {p f a t n : Nat} {l : List (Nat × Nat × Nat × Nat)} (h : LayA w p l) (hm : (f, a, t, n) ∈ l) : wK w (p + a) = some (.inr (t, n)) := (h _ hm).2
/-- the class's object -/
def LayB (w : Wd) (b : Nat) : Prop := wK w b = some (.inl 9) ∧ wR w b 0 = some (b + 1) ∧ LayC w (b + 1) ∧ wR w b 1 = some (b + 55) ∧ LayM w (b + 55) ∧ LayA w b [(2, 65, 5, 4), (3, 66, 1, 4)] ∧ wR w b 4 = some (b + 67) ∧ LayM w (b + 67) ∧ wR w b 5 = some (b + 77) ∧ LayM w (b + 77) ∧ wR w b 6 = some (b + 87) ∧ LayT w (b + 87) ∧ wR w b 7 = some (b + 90) ∧ wK w (b + 90) = some (.inl 8) ∧ (∀ k, k < 4 → wR w (b + 65) k = some (b + 91 + 10 * k) ∧ LayM w (b + 91 + 10 * k))
/-- the same kinds and references, with other ints, longs, doubles -/
def dW (w : Wd) (I : Nat → Nat → Int32) (J : Nat → Nat → Int64) (D : Nat → Nat → UInt64) : Wd := (w.1, w.2.1, w.2.2.1, I, J, D)
theorem dW_I (w : Wd) (a k : Nat) (v : Int32) : sI w a k v = dW w (up2 (wI w) a k v) (wJ w) (wD w) := rfl
theorem dW_J (w : Wd) (a k : Nat) (v : Int64) : sJ w a k v = dW w (wI w) (up2 (wJ w) a k v) (wD w) := rfl
theorem dW_D (w : Wd) (a k : Nat) (v : UInt64) : sD w a k v = dW w (wI w) (wJ w) (up2 (wD w) a k v) := rfl
theorem dW_dW (w : Wd) (I I' : Nat → Nat → Int32) (J J' : Nat → Nat → Int64) (D D' : Nat → Nat → UInt64) : dW (dW w I J D) I' J' D' = dW w I' J' D' := rfl
theorem wI_dW (w : Wd) (I : Nat → Nat → Int32) (J : Nat → Nat → Int64) (D : Nat → Nat → UInt64) : wI (dW w I J D) = I := rfl
theorem wJ_dW (w : Wd) (I : Nat → Nat → Int32) (J : Nat → Nat → Int64) (D : Nat → Nat → UInt64) : wJ (dW w I J D) = J := rfl
theorem wD_dW (w : Wd) (I : Nat → Nat → Int32) (J : Nat → Nat → Int64) (D : Nat → Nat → UInt64) : wD (dW w I J D) = D := rfl
theorem dW_self (w : Wd) : dW w (wI w) (wJ w) (wD w) = w := rfl
/-- one place of a row, one row of a memory -/
def up1 {α : Type} (f : Nat → α) (k : Nat) (v : α) : Nat → α := fun y => if y = k then v else f y
def ua {α : Type} (f : Nat → Nat → α) (a : Nat) (g : Nat → α) : Nat → Nat → α := fun x => if x = a then g else f x
theorem up1_s {α : Type} (f : Nat → α) (k : Nat) (v : α) : up1 f k v k = v := if_pos rfl
theorem up1_k {α : Type} {f : Nat → α} {k y : Nat} {v : α} (h : y ≠ k) : up1 f k v y = f y := if_neg h
theorem ua_s {α : Type} (f : Nat → Nat → α) (a : Nat) (g : Nat → α) : ua f a g a = g := if_pos rfl
theorem ua_a {α : Type} {f : Nat → Nat → α} {a x : Nat} {g : Nat → α} (h : x ≠ a) : ua f a g x = f x := if_neg h
theorem up2_ua {α : Type} (f : Nat → Nat → α) (a k : Nat) (v : α) : up2 f a k v = ua f a (up1 (f a) k v) := by
  funext x y
  unfold up2 ua up1
  by_cases h : x = a
  · subst h
    by_cases h2 : y = k
    · rw [if_pos ⟨rfl, h2⟩, if_pos rfl]; exact (if_pos h2).symm
    · rw [if_neg (fun q => h2 q.2), if_pos rfl]; exact (if_neg h2).symm
  · rw [if_neg (fun q => h q.1), if_neg h]
theorem ua_ua {α : Type} (f : Nat → Nat → α) (a : Nat) (g g' : Nat → α) : ua (ua f a g) a g' = ua f a g' := by
  funext x
  unfold ua
  by_cases h : x = a
  · rw [if_pos h, if_pos h]
  · rw [if_neg h, if_neg h, if_neg h]
theorem ua_self {α : Type} (f : Nat → Nat → α) (a : Nat) : ua f a (f a) = f := by
  funext x
  unfold ua
  by_cases h : x = a
  · rw [if_pos h, h]
  · rw [if_neg h]
/-- the reference's row, put -/
def sRow (w : Wd) (a : Nat) (r : Nat → Int64) : Wd := dW w (wI w) (ua (wJ w) (a + 1) r) (wD w)
def rw1 (w : Wd) (a : Nat) : Nat → Int64 := wJ w (a + 1)
theorem sRow_J (w : Wd) (a k : Nat) (v : Int64) : sJ w (a + 1) k v = sRow w a (up1 (rw1 w a) k v) := by rw [dW_J, up2_ua]; rfl
theorem rw1_s (w : Wd) (a : Nat) (r : Nat → Int64) : rw1 (sRow w a r) a = r := ua_s _ _ _
theorem sRow_s (w : Wd) (a : Nat) (r r' : Nat → Int64) : sRow (sRow w a r) a r' = sRow w a r' := by
  show dW w (wI w) (ua (ua (wJ w) (a + 1) r) (a + 1) r') (wD w) = _
  rw [ua_ua]; rfl
theorem sRow_u (w : Wd) (a k : Nat) (r : Nat → Int64) (v : Int64) : sJ (sRow w a r) (a + 1) k v = sRow w a (up1 r k v) := by rw [sRow_J, rw1_s, sRow_s]
theorem sRow_self (w : Wd) (a : Nat) : sRow w a (rw1 w a) = w := by
  show dW w (wI w) (ua (wJ w) (a + 1) (wJ w (a + 1))) (wD w) = w
  rw [ua_self]; rfl
theorem sRow_j (w : Wd) (a k : Nat) (r : Nat → Int64) : wJ (sRow w a r) (a + 1) k = r k := congrFun (rw1_s w a r) k
theorem sRow_jx (w : Wd) (a : Nat) (r : Nat → Int64) {x : Int32} {n : Nat} (h : x.toNatClampNeg = n) : wJ (sRow w a r) (a + 1) x.toNatClampNeg = r n := by rw [h, sRow_j]
theorem sRow_ux (w : Wd) (a : Nat) (r : Nat → Int64) (v : Int64) {x : Int32} {n : Nat} (h : x.toNatClampNeg = n) : sJ (sRow w a r) (a + 1) x.toNatClampNeg v = sRow w a (up1 r n v) := by rw [h, sRow_u]
theorem vpD {x : Int32} {n : Nat} (h : decide (¬ (x < 0 ∨ n ≤ x.toNatClampNeg)) = true) : vp_in x n := fun q => of_decide_eq_true h q
/-- truth as a number -/
def bI (p : Prop) [Decidable p] : Int32 := if p then 1 else 0
theorem bI_t {p : Prop} [Decidable p] (h : p) : bI p = 1 := if_pos h
theorem bI_f {p : Prop} [Decidable p] (h : ¬ p) : bI p = 0 := if_neg h
theorem bI_0 {p : Prop} [Decidable p] : bI p = 0 ↔ ¬ p := ⟨fun q h => by rw [bI_t h] at q; exact absurd q (by decide), bI_f⟩
theorem bI_1 {p : Prop} [Decidable p] : ¬ bI p = 0 ↔ p := by
  rw [bI_0]; exact Decidable.not_not
theorem bI_n (p : Prop) [Decidable p] : narrow .boolean (.int (bI p)) = .int (bI p) := by
  by_cases h : p
  · rw [bI_t h]; rfl
  · rw [bI_f h]; rfl
theorem bI_c {p q : Prop} [Decidable p] [Decidable q] (h : p ↔ q) : bI p = bI q := by
  by_cases g : p
  · rw [bI_t g, bI_t (h.mp g)]
  · rw [bI_f g, bI_f (fun x => g (h.mpr x))]
theorem rT {p : Prop} [Decidable p] (h : p) : some (Value.int 1) = some (Value.int (bI p)) := by rw [bI_t h]
theorem rF {p : Prop} [Decidable p] (h : ¬ p) : some (Value.int 0) = some (Value.int (bI p)) := by rw [bI_f h]
theorem i32nl {x y : Int32} : ¬ x ≤ y ↔ y < x := by rw [i32le, i32lt]; omega
theorem i32nlt {x y : Int32} : ¬ x < y ↔ y ≤ x := by rw [i32le, i32lt]; omega
/-- the reference's scratch: what may differ behind a call -/
def RS (a : Nat) (w w' : Wd) : Prop := ∃ J D, w' = dW w (wI w) J D ∧ (∀ p, p ≠ a → p ≠ a + 19 → p ≠ a + 20 → p ≠ a + 21 → p ≠ a + 23 → J p = wJ w p) ∧ (∀ p, p ≠ a → D p = wD w p)
theorem RS_r (a : Nat) (w : Wd) : RS a w w := ⟨wJ w, wD w, rfl, fun _ _ _ _ _ _ => rfl, fun _ _ => rfl⟩
theorem RS_t {a : Nat} {w w' w2 : Wd} (h : RS a w w') (g : RS a w' w2) : RS a w w2 := by
  obtain ⟨J, D, rfl, h1, h2⟩ := h
  obtain ⟨J', D', rfl, g1, g2⟩ := g
  exact ⟨J', D', rfl, fun p p1 p2 p3 p4 p5 => (g1 p p1 p2 p3 p4 p5).trans (h1 p p1 p2 p3 p4 p5), fun p p1 => (g2 p p1).trans (h2 p p1)⟩
