/-! where the fixed cells lie: the reference at m, its arrays behind it; the class at x (by program) -/
def msT : List (Nat × Nat × (Nat × Nat)) := [(0, 1, (100, 8)), (1, 2, (100, 8)), (2, 3, (100, 8)), (3, 4, (100, 128)), (4, 5, (101, 128)), (6, 6, (100, 6)), (7, 7, (100, 48)), (8, 8, (100, 48)), (9, 9, (100, 48)), (10, 10, (100, 48)), (11, 11, (100, 48)), (12, 12, (100, 48)), (14, 13, (100, 500)), (16, 14, (100, 160)), (18, 15, (100, 240)), (22, 16, (100, 4)), (23, 17, (100, 6)), (27, 18, (100, 8)), (28, 19, (100, 8)), (29, 20, (100, 8)), (30, 21, (100, 128)), (31, 22, (101, 128)), (32, 23, (100, 6)), (33, 24, (100, 288)), (34, 25, (100, 500)), (36, 26, (100, 8)), (37, 27, (100, 8)), (38, 28, (100, 8)), (39, 29, (100, 8)), (40, 30, (100, 8)), (41, 31, (100, 8)), (46, 32, (100, 1200)), (47, 33, (101, 16)), (58, 34, (100, 8)), (59, 35, (100, 128)), (60, 36, (101, 128)), (61, 37, (100, 8)), (62, 38, (100, 128)), (63, 39, (101, 128))]
def MS (g : Ge) (m : Nat) (w : Wd) : Prop := gB g ≤ m ∧ wsh w m = (12, 0) ∧ ∀ q ∈ msT, wP w m q.1 = some (m + q.2.1) ∧ wsh w (m + q.2.1) = q.2.2
theorem ms_b {g : Ge} {m : Nat} {w : Wd} (h : MS g m w) (k : Nat) : gB g ≤ m + k := Nat.le_trans h.1 (Nat.le_add_right _ _)
theorem ms_0 {g : Ge} {m : Nat} {w : Wd} (h : MS g m w) : gB g ≤ m := h.1
theorem ms_o {g : Ge} {m : Nat} {w : Wd} (h : MS g m w) : wsh w m = (12, 0) := h.2.1
theorem mp_slot {g : Ge} {m : Nat} {w : Wd} (h : MS g m w) : wP w m 0 = some (m + 1) := (h.2.2 (0, 1, (100, 8)) (by decide)).1
theorem ms_slot {g : Ge} {m : Nat} {w : Wd} (h : MS g m w) : wsh w (m + 1) = (100, 8) := (h.2.2 (0, 1, (100, 8)) (by decide)).2
theorem mp_rowKind {g : Ge} {m : Nat} {w : Wd} (h : MS g m w) : wP w m 1 = some (m + 2) := (h.2.2 (1, 2, (100, 8)) (by decide)).1
theorem ms_rowKind {g : Ge} {m : Nat} {w : Wd} (h : MS g m w) : wsh w (m + 2) = (100, 8) := (h.2.2 (1, 2, (100, 8)) (by decide)).2
theorem mp_rowSize {g : Ge} {m : Nat} {w : Wd} (h : MS g m w) : wP w m 2 = some (m + 3) := (h.2.2 (2, 3, (100, 8)) (by decide)).1
theorem ms_rowSize {g : Ge} {m : Nat} {w : Wd} (h : MS g m w) : wsh w (m + 3) = (100, 8) := (h.2.2 (2, 3, (100, 8)) (by decide)).2
theorem mp_kinds {g : Ge} {m : Nat} {w : Wd} (h : MS g m w) : wP w m 3 = some (m + 4) := (h.2.2 (3, 4, (100, 128)) (by decide)).1
theorem ms_kinds {g : Ge} {m : Nat} {w : Wd} (h : MS g m w) : wsh w (m + 4) = (100, 128) := (h.2.2 (3, 4, (100, 128)) (by decide)).2
theorem mp_values {g : Ge} {m : Nat} {w : Wd} (h : MS g m w) : wP w m 4 = some (m + 5) := (h.2.2 (4, 5, (101, 128)) (by decide)).1
theorem ms_values {g : Ge} {m : Nat} {w : Wd} (h : MS g m w) : wsh w (m + 5) = (101, 128) := (h.2.2 (4, 5, (101, 128)) (by decide)).2
theorem mp_many {g : Ge} {m : Nat} {w : Wd} (h : MS g m w) : wP w m 6 = some (m + 6) := (h.2.2 (6, 6, (100, 6)) (by decide)).1
theorem ms_many {g : Ge} {m : Nat} {w : Wd} (h : MS g m w) : wsh w (m + 6) = (100, 6) := (h.2.2 (6, 6, (100, 6)) (by decide)).2
theorem mp_slotOf {g : Ge} {m : Nat} {w : Wd} (h : MS g m w) : wP w m 7 = some (m + 7) := (h.2.2 (7, 7, (100, 48)) (by decide)).1
theorem ms_slotOf {g : Ge} {m : Nat} {w : Wd} (h : MS g m w) : wsh w (m + 7) = (100, 48) := (h.2.2 (7, 7, (100, 48)) (by decide)).2
theorem mp_kindOf {g : Ge} {m : Nat} {w : Wd} (h : MS g m w) : wP w m 8 = some (m + 8) := (h.2.2 (8, 8, (100, 48)) (by decide)).1
theorem ms_kindOf {g : Ge} {m : Nat} {w : Wd} (h : MS g m w) : wsh w (m + 8) = (100, 48) := (h.2.2 (8, 8, (100, 48)) (by decide)).2
theorem mp_cellsOf {g : Ge} {m : Nat} {w : Wd} (h : MS g m w) : wP w m 9 = some (m + 9) := (h.2.2 (9, 9, (100, 48)) (by decide)).1
theorem ms_cellsOf {g : Ge} {m : Nat} {w : Wd} (h : MS g m w) : wsh w (m + 9) = (100, 48) := (h.2.2 (9, 9, (100, 48)) (by decide)).2
theorem mp_neededOf {g : Ge} {m : Nat} {w : Wd} (h : MS g m w) : wP w m 10 = some (m + 10) := (h.2.2 (10, 10, (100, 48)) (by decide)).1
theorem ms_neededOf {g : Ge} {m : Nat} {w : Wd} (h : MS g m w) : wsh w (m + 10) = (100, 48) := (h.2.2 (10, 10, (100, 48)) (by decide)).2
theorem mp_toldOf {g : Ge} {m : Nat} {w : Wd} (h : MS g m w) : wP w m 11 = some (m + 11) := (h.2.2 (11, 11, (100, 48)) (by decide)).1
theorem ms_toldOf {g : Ge} {m : Nat} {w : Wd} (h : MS g m w) : wsh w (m + 11) = (100, 48) := (h.2.2 (11, 11, (100, 48)) (by decide)).2
theorem mp_byOf {g : Ge} {m : Nat} {w : Wd} (h : MS g m w) : wP w m 12 = some (m + 12) := (h.2.2 (12, 12, (100, 48)) (by decide)).1
theorem ms_byOf {g : Ge} {m : Nat} {w : Wd} (h : MS g m w) : wsh w (m + 12) = (100, 48) := (h.2.2 (12, 12, (100, 48)) (by decide)).2
theorem mp_wire {g : Ge} {m : Nat} {w : Wd} (h : MS g m w) : wP w m 14 = some (m + 13) := (h.2.2 (14, 13, (100, 500)) (by decide)).1
theorem ms_wire {g : Ge} {m : Nat} {w : Wd} (h : MS g m w) : wsh w (m + 13) = (100, 500) := (h.2.2 (14, 13, (100, 500)) (by decide)).2
theorem mp_tape {g : Ge} {m : Nat} {w : Wd} (h : MS g m w) : wP w m 16 = some (m + 14) := (h.2.2 (16, 14, (100, 160)) (by decide)).1
theorem ms_tape {g : Ge} {m : Nat} {w : Wd} (h : MS g m w) : wsh w (m + 14) = (100, 160) := (h.2.2 (16, 14, (100, 160)) (by decide)).2
theorem mp_paper {g : Ge} {m : Nat} {w : Wd} (h : MS g m w) : wP w m 18 = some (m + 15) := (h.2.2 (18, 15, (100, 240)) (by decide)).1
theorem ms_paper {g : Ge} {m : Nat} {w : Wd} (h : MS g m w) : wsh w (m + 15) = (100, 240) := (h.2.2 (18, 15, (100, 240)) (by decide)).2
theorem mp_stop {g : Ge} {m : Nat} {w : Wd} (h : MS g m w) : wP w m 22 = some (m + 16) := (h.2.2 (22, 16, (100, 4)) (by decide)).1
theorem ms_stop {g : Ge} {m : Nat} {w : Wd} (h : MS g m w) : wsh w (m + 16) = (100, 4) := (h.2.2 (22, 16, (100, 4)) (by decide)).2
theorem mp_counts {g : Ge} {m : Nat} {w : Wd} (h : MS g m w) : wP w m 23 = some (m + 17) := (h.2.2 (23, 17, (100, 6)) (by decide)).1
theorem ms_counts {g : Ge} {m : Nat} {w : Wd} (h : MS g m w) : wsh w (m + 17) = (100, 6) := (h.2.2 (23, 17, (100, 6)) (by decide)).2
theorem mp_oldSlot {g : Ge} {m : Nat} {w : Wd} (h : MS g m w) : wP w m 27 = some (m + 18) := (h.2.2 (27, 18, (100, 8)) (by decide)).1
theorem ms_oldSlot {g : Ge} {m : Nat} {w : Wd} (h : MS g m w) : wsh w (m + 18) = (100, 8) := (h.2.2 (27, 18, (100, 8)) (by decide)).2
theorem mp_oldKind {g : Ge} {m : Nat} {w : Wd} (h : MS g m w) : wP w m 28 = some (m + 19) := (h.2.2 (28, 19, (100, 8)) (by decide)).1
theorem ms_oldKind {g : Ge} {m : Nat} {w : Wd} (h : MS g m w) : wsh w (m + 19) = (100, 8) := (h.2.2 (28, 19, (100, 8)) (by decide)).2
theorem mp_oldSize {g : Ge} {m : Nat} {w : Wd} (h : MS g m w) : wP w m 29 = some (m + 20) := (h.2.2 (29, 20, (100, 8)) (by decide)).1
theorem ms_oldSize {g : Ge} {m : Nat} {w : Wd} (h : MS g m w) : wsh w (m + 20) = (100, 8) := (h.2.2 (29, 20, (100, 8)) (by decide)).2
theorem mp_oldKinds {g : Ge} {m : Nat} {w : Wd} (h : MS g m w) : wP w m 30 = some (m + 21) := (h.2.2 (30, 21, (100, 128)) (by decide)).1
theorem ms_oldKinds {g : Ge} {m : Nat} {w : Wd} (h : MS g m w) : wsh w (m + 21) = (100, 128) := (h.2.2 (30, 21, (100, 128)) (by decide)).2
theorem mp_oldValues {g : Ge} {m : Nat} {w : Wd} (h : MS g m w) : wP w m 31 = some (m + 22) := (h.2.2 (31, 22, (101, 128)) (by decide)).1
theorem ms_oldValues {g : Ge} {m : Nat} {w : Wd} (h : MS g m w) : wsh w (m + 22) = (101, 128) := (h.2.2 (31, 22, (101, 128)) (by decide)).2
theorem mp_oldMany {g : Ge} {m : Nat} {w : Wd} (h : MS g m w) : wP w m 32 = some (m + 23) := (h.2.2 (32, 23, (100, 6)) (by decide)).1
theorem ms_oldMany {g : Ge} {m : Nat} {w : Wd} (h : MS g m w) : wsh w (m + 23) = (100, 6) := (h.2.2 (32, 23, (100, 6)) (by decide)).2
theorem mp_oldFields {g : Ge} {m : Nat} {w : Wd} (h : MS g m w) : wP w m 33 = some (m + 24) := (h.2.2 (33, 24, (100, 288)) (by decide)).1
theorem ms_oldFields {g : Ge} {m : Nat} {w : Wd} (h : MS g m w) : wsh w (m + 24) = (100, 288) := (h.2.2 (33, 24, (100, 288)) (by decide)).2
theorem mp_oldWire {g : Ge} {m : Nat} {w : Wd} (h : MS g m w) : wP w m 34 = some (m + 25) := (h.2.2 (34, 25, (100, 500)) (by decide)).1
theorem ms_oldWire {g : Ge} {m : Nat} {w : Wd} (h : MS g m w) : wsh w (m + 25) = (100, 500) := (h.2.2 (34, 25, (100, 500)) (by decide)).2
theorem mp_nextSlot {g : Ge} {m : Nat} {w : Wd} (h : MS g m w) : wP w m 36 = some (m + 26) := (h.2.2 (36, 26, (100, 8)) (by decide)).1
theorem ms_nextSlot {g : Ge} {m : Nat} {w : Wd} (h : MS g m w) : wsh w (m + 26) = (100, 8) := (h.2.2 (36, 26, (100, 8)) (by decide)).2
theorem mp_nextKind {g : Ge} {m : Nat} {w : Wd} (h : MS g m w) : wP w m 37 = some (m + 27) := (h.2.2 (37, 27, (100, 8)) (by decide)).1
theorem ms_nextKind {g : Ge} {m : Nat} {w : Wd} (h : MS g m w) : wsh w (m + 27) = (100, 8) := (h.2.2 (37, 27, (100, 8)) (by decide)).2
theorem mp_nextCells {g : Ge} {m : Nat} {w : Wd} (h : MS g m w) : wP w m 38 = some (m + 28) := (h.2.2 (38, 28, (100, 8)) (by decide)).1
theorem ms_nextCells {g : Ge} {m : Nat} {w : Wd} (h : MS g m w) : wsh w (m + 28) = (100, 8) := (h.2.2 (38, 28, (100, 8)) (by decide)).2
theorem mp_nextNeeded {g : Ge} {m : Nat} {w : Wd} (h : MS g m w) : wP w m 39 = some (m + 29) := (h.2.2 (39, 29, (100, 8)) (by decide)).1
theorem ms_nextNeeded {g : Ge} {m : Nat} {w : Wd} (h : MS g m w) : wsh w (m + 29) = (100, 8) := (h.2.2 (39, 29, (100, 8)) (by decide)).2
theorem mp_nextTold {g : Ge} {m : Nat} {w : Wd} (h : MS g m w) : wP w m 40 = some (m + 30) := (h.2.2 (40, 30, (100, 8)) (by decide)).1
theorem ms_nextTold {g : Ge} {m : Nat} {w : Wd} (h : MS g m w) : wsh w (m + 30) = (100, 8) := (h.2.2 (40, 30, (100, 8)) (by decide)).2
theorem mp_nextBy {g : Ge} {m : Nat} {w : Wd} (h : MS g m w) : wP w m 41 = some (m + 31) := (h.2.2 (41, 31, (100, 8)) (by decide)).1
theorem ms_nextBy {g : Ge} {m : Nat} {w : Wd} (h : MS g m w) : wsh w (m + 31) = (100, 8) := (h.2.2 (41, 31, (100, 8)) (by decide)).2
theorem mp_out {g : Ge} {m : Nat} {w : Wd} (h : MS g m w) : wP w m 46 = some (m + 32) := (h.2.2 (46, 32, (100, 1200)) (by decide)).1
theorem ms_out {g : Ge} {m : Nat} {w : Wd} (h : MS g m w) : wsh w (m + 32) = (100, 1200) := (h.2.2 (46, 32, (100, 1200)) (by decide)).2
theorem mp_row {g : Ge} {m : Nat} {w : Wd} (h : MS g m w) : wP w m 47 = some (m + 33) := (h.2.2 (47, 33, (101, 16)) (by decide)).1
theorem ms_row {g : Ge} {m : Nat} {w : Wd} (h : MS g m w) : wsh w (m + 33) = (101, 16) := (h.2.2 (47, 33, (101, 16)) (by decide)).2
theorem mp_gotSize {g : Ge} {m : Nat} {w : Wd} (h : MS g m w) : wP w m 58 = some (m + 34) := (h.2.2 (58, 34, (100, 8)) (by decide)).1
theorem ms_gotSize {g : Ge} {m : Nat} {w : Wd} (h : MS g m w) : wsh w (m + 34) = (100, 8) := (h.2.2 (58, 34, (100, 8)) (by decide)).2
theorem mp_gotKind {g : Ge} {m : Nat} {w : Wd} (h : MS g m w) : wP w m 59 = some (m + 35) := (h.2.2 (59, 35, (100, 128)) (by decide)).1
theorem ms_gotKind {g : Ge} {m : Nat} {w : Wd} (h : MS g m w) : wsh w (m + 35) = (100, 128) := (h.2.2 (59, 35, (100, 128)) (by decide)).2
theorem mp_gotValue {g : Ge} {m : Nat} {w : Wd} (h : MS g m w) : wP w m 60 = some (m + 36) := (h.2.2 (60, 36, (101, 128)) (by decide)).1
theorem ms_gotValue {g : Ge} {m : Nat} {w : Wd} (h : MS g m w) : wsh w (m + 36) = (101, 128) := (h.2.2 (60, 36, (101, 128)) (by decide)).2
theorem mp_newSize {g : Ge} {m : Nat} {w : Wd} (h : MS g m w) : wP w m 61 = some (m + 37) := (h.2.2 (61, 37, (100, 8)) (by decide)).1
theorem ms_newSize {g : Ge} {m : Nat} {w : Wd} (h : MS g m w) : wsh w (m + 37) = (100, 8) := (h.2.2 (61, 37, (100, 8)) (by decide)).2
theorem mp_newKind {g : Ge} {m : Nat} {w : Wd} (h : MS g m w) : wP w m 62 = some (m + 38) := (h.2.2 (62, 38, (100, 128)) (by decide)).1
theorem ms_newKind {g : Ge} {m : Nat} {w : Wd} (h : MS g m w) : wsh w (m + 38) = (100, 128) := (h.2.2 (62, 38, (100, 128)) (by decide)).2
theorem mp_newValue {g : Ge} {m : Nat} {w : Wd} (h : MS g m w) : wP w m 63 = some (m + 39) := (h.2.2 (63, 39, (101, 128)) (by decide)).1
theorem ms_newValue {g : Ge} {m : Nat} {w : Wd} (h : MS g m w) : wsh w (m + 39) = (101, 128) := (h.2.2 (63, 39, (101, 128)) (by decide)).2
theorem MS.i {g : Ge} {m : Nat} {w : Wd} (h : MS g m w) (a k : Nat) (v : Int32) : MS g m (sI w a k v) := h
theorem MS.l {g : Ge} {m : Nat} {w : Wd} (h : MS g m w) (a k : Nat) (v : Int64) : MS g m (sL w a k v) := h
def xoT : List (Nat × (Nat × Nat)) := [(0, (11, 0)), (1, (104, 8)), (2, (105, 6)), (3, (100, 160)), (4, (100, 500)), (5, (100, 6)), (6, (5, 0)), (7, (0, 0)), (8, (100, 1161)), (9, (6, 0)), (10, (100, 16)), (11, (101, 16)), (12, (2, 0)), (13, (102, 8)), (14, (100, 8)), (15, (107, 8)), (24, (108, 8)), (33, (100, 0)), (34, (9, 0)), (35, (104, 8)), (36, (100, 4)), (37, (3, 0)), (38, (104, 8)), (39, (105, 6)), (40, (100, 500)), (16, (100, 16)), (25, (101, 16)), (17, (100, 16)), (26, (101, 16)), (18, (100, 16)), (27, (101, 16)), (19, (100, 16)), (28, (101, 16)), (20, (100, 16)), (29, (101, 16)), (21, (100, 16)), (30, (101, 16)), (22, (100, 16)), (31, (101, 16)), (23, (100, 16)), (32, (101, 16))]
def xpT : List (Nat × Nat × Nat) := [(0, 0, 1), (0, 1, 2), (0, 2, 3), (0, 3, 4), (0, 4, 5), (0, 5, 6), (0, 6, 12), (0, 7, 34), (0, 8, 36), (0, 9, 37), (6, 0, 7), (6, 1, 9), (6, 2, 10), (6, 3, 11), (7, 0, 8), (12, 5, 13), (12, 6, 14), (12, 7, 15), (12, 8, 24), (34, 0, 35), (37, 1, 38), (37, 2, 39), (37, 3, 40), (15, 0, 16), (24, 0, 25), (15, 1, 17), (24, 1, 26), (15, 2, 18), (24, 2, 27), (15, 3, 19), (24, 3, 28), (15, 4, 20), (24, 4, 29), (15, 5, 21), (24, 5, 30), (15, 6, 22), (24, 6, 31), (15, 7, 23), (24, 7, 32)]
def XS (g : Ge) (x : Nat) (w : Wd) : Prop := gB g ≤ x ∧ (∀ q ∈ xoT, wsh w (x + q.1) = q.2) ∧ ∀ q ∈ xpT, wP w (x + q.1) q.2.1 = some (x + q.2.2)
theorem xs_b {g : Ge} {x : Nat} {w : Wd} (h : XS g x w) (k : Nat) : gB g ≤ x + k := Nat.le_trans h.1 (Nat.le_add_right _ _)
theorem xs_0 {g : Ge} {x : Nat} {w : Wd} (h : XS g x w) : gB g ≤ x := h.1
theorem xs_obj {g : Ge} {x : Nat} {w : Wd} (h : XS g x w) : wsh w (x) = (11, 0) := h.2.1 (0, (11, 0)) (by decide)
theorem xs_slots {g : Ge} {x : Nat} {w : Wd} (h : XS g x w) : wsh w (x + 1) = (104, 8) := h.2.1 (1, (104, 8)) (by decide)
theorem xs_versions {g : Ge} {x : Nat} {w : Wd} (h : XS g x w) : wsh w (x + 2) = (105, 6) := h.2.1 (2, (105, 6)) (by decide)
theorem xs_tape {g : Ge} {x : Nat} {w : Wd} (h : XS g x w) : wsh w (x + 3) = (100, 160) := h.2.1 (3, (100, 160)) (by decide)
theorem xs_wire {g : Ge} {x : Nat} {w : Wd} (h : XS g x w) : wsh w (x + 4) = (100, 500) := h.2.1 (4, (100, 500)) (by decide)
theorem xs_tallies {g : Ge} {x : Nat} {w : Wd} (h : XS g x w) : wsh w (x + 5) = (100, 6) := h.2.1 (5, (100, 6)) (by decide)
theorem xs_packer {g : Ge} {x : Nat} {w : Wd} (h : XS g x w) : wsh w (x + 6) = (5, 0) := h.2.1 (6, (5, 0)) (by decide)
theorem xs_body {g : Ge} {x : Nat} {w : Wd} (h : XS g x w) : wsh w (x + 7) = (0, 0) := h.2.1 (7, (0, 0)) (by decide)
theorem xs_bytes {g : Ge} {x : Nat} {w : Wd} (h : XS g x w) : wsh w (x + 8) = (100, 1161) := h.2.1 (8, (100, 1161)) (by decide)
theorem xs_plan {g : Ge} {x : Nat} {w : Wd} (h : XS g x w) : wsh w (x + 9) = (6, 0) := h.2.1 (9, (6, 0)) (by decide)
theorem xs_pkinds {g : Ge} {x : Nat} {w : Wd} (h : XS g x w) : wsh w (x + 10) = (100, 16) := h.2.1 (10, (100, 16)) (by decide)
theorem xs_pcells {g : Ge} {x : Nat} {w : Wd} (h : XS g x w) : wsh w (x + 11) = (101, 16) := h.2.1 (11, (101, 16)) (by decide)
theorem xs_seen {g : Ge} {x : Nat} {w : Wd} (h : XS g x w) : wsh w (x + 12) = (2, 0) := h.2.1 (12, (2, 0)) (by decide)
theorem xs_present {g : Ge} {x : Nat} {w : Wd} (h : XS g x w) : wsh w (x + 13) = (102, 8) := h.2.1 (13, (102, 8)) (by decide)
theorem xs_sizes {g : Ge} {x : Nat} {w : Wd} (h : XS g x w) : wsh w (x + 14) = (100, 8) := h.2.1 (14, (100, 8)) (by decide)
theorem xs_fkinds {g : Ge} {x : Nat} {w : Wd} (h : XS g x w) : wsh w (x + 15) = (107, 8) := h.2.1 (15, (107, 8)) (by decide)
theorem xs_fvalues {g : Ge} {x : Nat} {w : Wd} (h : XS g x w) : wsh w (x + 24) = (108, 8) := h.2.1 (24, (108, 8)) (by decide)
theorem xs_fbytes0 {g : Ge} {x : Nat} {w : Wd} (h : XS g x w) : wsh w (x + 33) = (100, 0) := h.2.1 (33, (100, 0)) (by decide)
theorem xs_taker {g : Ge} {x : Nat} {w : Wd} (h : XS g x w) : wsh w (x + 34) = (9, 0) := h.2.1 (34, (9, 0)) (by decide)
theorem xs_rows {g : Ge} {x : Nat} {w : Wd} (h : XS g x w) : wsh w (x + 35) = (104, 8) := h.2.1 (35, (104, 8)) (by decide)
theorem xs_stop {g : Ge} {x : Nat} {w : Wd} (h : XS g x w) : wsh w (x + 36) = (100, 4) := h.2.1 (36, (100, 4)) (by decide)
theorem xs_kept {g : Ge} {x : Nat} {w : Wd} (h : XS g x w) : wsh w (x + 37) = (3, 0) := h.2.1 (37, (3, 0)) (by decide)
theorem xs_kslots {g : Ge} {x : Nat} {w : Wd} (h : XS g x w) : wsh w (x + 38) = (104, 8) := h.2.1 (38, (104, 8)) (by decide)
theorem xs_kversions {g : Ge} {x : Nat} {w : Wd} (h : XS g x w) : wsh w (x + 39) = (105, 6) := h.2.1 (39, (105, 6)) (by decide)
theorem xs_kwire {g : Ge} {x : Nat} {w : Wd} (h : XS g x w) : wsh w (x + 40) = (100, 500) := h.2.1 (40, (100, 500)) (by decide)
theorem xs_fk0 {g : Ge} {x : Nat} {w : Wd} (h : XS g x w) : wsh w (x + 16) = (100, 16) := h.2.1 (16, (100, 16)) (by decide)
theorem xs_fv0 {g : Ge} {x : Nat} {w : Wd} (h : XS g x w) : wsh w (x + 25) = (101, 16) := h.2.1 (25, (101, 16)) (by decide)
theorem xs_fk1 {g : Ge} {x : Nat} {w : Wd} (h : XS g x w) : wsh w (x + 17) = (100, 16) := h.2.1 (17, (100, 16)) (by decide)
theorem xs_fv1 {g : Ge} {x : Nat} {w : Wd} (h : XS g x w) : wsh w (x + 26) = (101, 16) := h.2.1 (26, (101, 16)) (by decide)
theorem xs_fk2 {g : Ge} {x : Nat} {w : Wd} (h : XS g x w) : wsh w (x + 18) = (100, 16) := h.2.1 (18, (100, 16)) (by decide)
theorem xs_fv2 {g : Ge} {x : Nat} {w : Wd} (h : XS g x w) : wsh w (x + 27) = (101, 16) := h.2.1 (27, (101, 16)) (by decide)
theorem xs_fk3 {g : Ge} {x : Nat} {w : Wd} (h : XS g x w) : wsh w (x + 19) = (100, 16) := h.2.1 (19, (100, 16)) (by decide)
theorem xs_fv3 {g : Ge} {x : Nat} {w : Wd} (h : XS g x w) : wsh w (x + 28) = (101, 16) := h.2.1 (28, (101, 16)) (by decide)
theorem xs_fk4 {g : Ge} {x : Nat} {w : Wd} (h : XS g x w) : wsh w (x + 20) = (100, 16) := h.2.1 (20, (100, 16)) (by decide)
theorem xs_fv4 {g : Ge} {x : Nat} {w : Wd} (h : XS g x w) : wsh w (x + 29) = (101, 16) := h.2.1 (29, (101, 16)) (by decide)
theorem xs_fk5 {g : Ge} {x : Nat} {w : Wd} (h : XS g x w) : wsh w (x + 21) = (100, 16) := h.2.1 (21, (100, 16)) (by decide)
theorem xs_fv5 {g : Ge} {x : Nat} {w : Wd} (h : XS g x w) : wsh w (x + 30) = (101, 16) := h.2.1 (30, (101, 16)) (by decide)
theorem xs_fk6 {g : Ge} {x : Nat} {w : Wd} (h : XS g x w) : wsh w (x + 22) = (100, 16) := h.2.1 (22, (100, 16)) (by decide)
theorem xs_fv6 {g : Ge} {x : Nat} {w : Wd} (h : XS g x w) : wsh w (x + 31) = (101, 16) := h.2.1 (31, (101, 16)) (by decide)
theorem xs_fk7 {g : Ge} {x : Nat} {w : Wd} (h : XS g x w) : wsh w (x + 23) = (100, 16) := h.2.1 (23, (100, 16)) (by decide)
theorem xs_fv7 {g : Ge} {x : Nat} {w : Wd} (h : XS g x w) : wsh w (x + 32) = (101, 16) := h.2.1 (32, (101, 16)) (by decide)
theorem xp_x_0 {g : Ge} {x : Nat} {w : Wd} (h : XS g x w) : wP w (x) 0 = some (x + 1) := h.2.2 (0, 0, 1) (by decide)
theorem xp_x_1 {g : Ge} {x : Nat} {w : Wd} (h : XS g x w) : wP w (x) 1 = some (x + 2) := h.2.2 (0, 1, 2) (by decide)
theorem xp_x_2 {g : Ge} {x : Nat} {w : Wd} (h : XS g x w) : wP w (x) 2 = some (x + 3) := h.2.2 (0, 2, 3) (by decide)
theorem xp_x_3 {g : Ge} {x : Nat} {w : Wd} (h : XS g x w) : wP w (x) 3 = some (x + 4) := h.2.2 (0, 3, 4) (by decide)
theorem xp_x_4 {g : Ge} {x : Nat} {w : Wd} (h : XS g x w) : wP w (x) 4 = some (x + 5) := h.2.2 (0, 4, 5) (by decide)
theorem xp_x_5 {g : Ge} {x : Nat} {w : Wd} (h : XS g x w) : wP w (x) 5 = some (x + 6) := h.2.2 (0, 5, 6) (by decide)
theorem xp_x_6 {g : Ge} {x : Nat} {w : Wd} (h : XS g x w) : wP w (x) 6 = some (x + 12) := h.2.2 (0, 6, 12) (by decide)
theorem xp_x_7 {g : Ge} {x : Nat} {w : Wd} (h : XS g x w) : wP w (x) 7 = some (x + 34) := h.2.2 (0, 7, 34) (by decide)
theorem xp_x_8 {g : Ge} {x : Nat} {w : Wd} (h : XS g x w) : wP w (x) 8 = some (x + 36) := h.2.2 (0, 8, 36) (by decide)
theorem xp_x_9 {g : Ge} {x : Nat} {w : Wd} (h : XS g x w) : wP w (x) 9 = some (x + 37) := h.2.2 (0, 9, 37) (by decide)
theorem xp_packer_0 {g : Ge} {x : Nat} {w : Wd} (h : XS g x w) : wP w (x + 6) 0 = some (x + 7) := h.2.2 (6, 0, 7) (by decide)
theorem xp_packer_1 {g : Ge} {x : Nat} {w : Wd} (h : XS g x w) : wP w (x + 6) 1 = some (x + 9) := h.2.2 (6, 1, 9) (by decide)
theorem xp_packer_2 {g : Ge} {x : Nat} {w : Wd} (h : XS g x w) : wP w (x + 6) 2 = some (x + 10) := h.2.2 (6, 2, 10) (by decide)
theorem xp_packer_3 {g : Ge} {x : Nat} {w : Wd} (h : XS g x w) : wP w (x + 6) 3 = some (x + 11) := h.2.2 (6, 3, 11) (by decide)
theorem xp_body_0 {g : Ge} {x : Nat} {w : Wd} (h : XS g x w) : wP w (x + 7) 0 = some (x + 8) := h.2.2 (7, 0, 8) (by decide)
theorem xp_seen_5 {g : Ge} {x : Nat} {w : Wd} (h : XS g x w) : wP w (x + 12) 5 = some (x + 13) := h.2.2 (12, 5, 13) (by decide)
theorem xp_seen_6 {g : Ge} {x : Nat} {w : Wd} (h : XS g x w) : wP w (x + 12) 6 = some (x + 14) := h.2.2 (12, 6, 14) (by decide)
theorem xp_seen_7 {g : Ge} {x : Nat} {w : Wd} (h : XS g x w) : wP w (x + 12) 7 = some (x + 15) := h.2.2 (12, 7, 15) (by decide)
theorem xp_seen_8 {g : Ge} {x : Nat} {w : Wd} (h : XS g x w) : wP w (x + 12) 8 = some (x + 24) := h.2.2 (12, 8, 24) (by decide)
theorem xp_taker_0 {g : Ge} {x : Nat} {w : Wd} (h : XS g x w) : wP w (x + 34) 0 = some (x + 35) := h.2.2 (34, 0, 35) (by decide)
theorem xp_kept_1 {g : Ge} {x : Nat} {w : Wd} (h : XS g x w) : wP w (x + 37) 1 = some (x + 38) := h.2.2 (37, 1, 38) (by decide)
theorem xp_kept_2 {g : Ge} {x : Nat} {w : Wd} (h : XS g x w) : wP w (x + 37) 2 = some (x + 39) := h.2.2 (37, 2, 39) (by decide)
theorem xp_kept_3 {g : Ge} {x : Nat} {w : Wd} (h : XS g x w) : wP w (x + 37) 3 = some (x + 40) := h.2.2 (37, 3, 40) (by decide)
theorem xp_fkinds_0 {g : Ge} {x : Nat} {w : Wd} (h : XS g x w) : wP w (x + 15) 0 = some (x + 16) := h.2.2 (15, 0, 16) (by decide)
theorem xp_fvalues_0 {g : Ge} {x : Nat} {w : Wd} (h : XS g x w) : wP w (x + 24) 0 = some (x + 25) := h.2.2 (24, 0, 25) (by decide)
theorem xp_fkinds_1 {g : Ge} {x : Nat} {w : Wd} (h : XS g x w) : wP w (x + 15) 1 = some (x + 17) := h.2.2 (15, 1, 17) (by decide)
theorem xp_fvalues_1 {g : Ge} {x : Nat} {w : Wd} (h : XS g x w) : wP w (x + 24) 1 = some (x + 26) := h.2.2 (24, 1, 26) (by decide)
theorem xp_fkinds_2 {g : Ge} {x : Nat} {w : Wd} (h : XS g x w) : wP w (x + 15) 2 = some (x + 18) := h.2.2 (15, 2, 18) (by decide)
theorem xp_fvalues_2 {g : Ge} {x : Nat} {w : Wd} (h : XS g x w) : wP w (x + 24) 2 = some (x + 27) := h.2.2 (24, 2, 27) (by decide)
theorem xp_fkinds_3 {g : Ge} {x : Nat} {w : Wd} (h : XS g x w) : wP w (x + 15) 3 = some (x + 19) := h.2.2 (15, 3, 19) (by decide)
theorem xp_fvalues_3 {g : Ge} {x : Nat} {w : Wd} (h : XS g x w) : wP w (x + 24) 3 = some (x + 28) := h.2.2 (24, 3, 28) (by decide)
theorem xp_fkinds_4 {g : Ge} {x : Nat} {w : Wd} (h : XS g x w) : wP w (x + 15) 4 = some (x + 20) := h.2.2 (15, 4, 20) (by decide)
theorem xp_fvalues_4 {g : Ge} {x : Nat} {w : Wd} (h : XS g x w) : wP w (x + 24) 4 = some (x + 29) := h.2.2 (24, 4, 29) (by decide)
theorem xp_fkinds_5 {g : Ge} {x : Nat} {w : Wd} (h : XS g x w) : wP w (x + 15) 5 = some (x + 21) := h.2.2 (15, 5, 21) (by decide)
theorem xp_fvalues_5 {g : Ge} {x : Nat} {w : Wd} (h : XS g x w) : wP w (x + 24) 5 = some (x + 30) := h.2.2 (24, 5, 30) (by decide)
theorem xp_fkinds_6 {g : Ge} {x : Nat} {w : Wd} (h : XS g x w) : wP w (x + 15) 6 = some (x + 22) := h.2.2 (15, 6, 22) (by decide)
theorem xp_fvalues_6 {g : Ge} {x : Nat} {w : Wd} (h : XS g x w) : wP w (x + 24) 6 = some (x + 31) := h.2.2 (24, 6, 31) (by decide)
theorem xp_fkinds_7 {g : Ge} {x : Nat} {w : Wd} (h : XS g x w) : wP w (x + 15) 7 = some (x + 23) := h.2.2 (15, 7, 23) (by decide)
theorem xp_fvalues_7 {g : Ge} {x : Nat} {w : Wd} (h : XS g x w) : wP w (x + 24) 7 = some (x + 32) := h.2.2 (24, 7, 32) (by decide)
theorem XS.i {g : Ge} {x : Nat} {w : Wd} (h : XS g x w) (a k : Nat) (v : Int32) : XS g x (sI w a k v) := h
theorem XS.l {g : Ge} {x : Nat} {w : Wd} (h : XS g x w) (a k : Nat) (v : Int64) : XS g x (sL w a k v) := h
