theorem eq_insert {e : pu_E} {f : mo_E} (R : pu_Rel e f) (a v : Int) : (mo_insert a v f).1 = (pu_insert a v e).1 ∧ pu_Rel (pu_insert a v e).2 (mo_insert a v f).2 := sorry
theorem eq_remove {e : pu_E} {f : mo_E} (R : pu_Rel e f) (i : Int) : (mo_remove i f).1 = (pu_remove i e).1 ∧ pu_Rel (pu_remove i e).2 (mo_remove i f).2 := sorry
theorem eq_set {e : pu_E} {f : mo_E} (R : pu_Rel e f) (i v : Int) : (mo_set i v f).1 = (pu_set i v e).1 ∧ pu_Rel (pu_set i v e).2 (mo_set i v f).2 := sorry
theorem eq_raise {e : pu_E} {f : mo_E} (R : pu_Rel e f) (a b d : Int) : (mo_raise a b d f).1 = (pu_raise a b d e).1 ∧ pu_Rel (pu_raise a b d e).2 (mo_raise a b d f).2 := sorry
theorem eq_reverse {e : pu_E} {f : mo_E} (R : pu_Rel e f) (a b : Int) : (mo_reverse a b f).1 = (pu_reverse a b e).1 ∧ pu_Rel (pu_reverse a b e).2 (mo_reverse a b f).2 := sorry
theorem eq_sort {e : pu_E} {f : mo_E} (R : pu_Rel e f) (a b u : Int) : (mo_sort a b u f).1 = (pu_sort a b u e).1 ∧ pu_Rel (pu_sort a b u e).2 (mo_sort a b u f).2 := sorry
theorem eq_clear {e : pu_E} {f : mo_E} (R : pu_Rel e f) : (mo_clear f).1 = (pu_clear e).1 ∧ pu_Rel (pu_clear e).2 (mo_clear f).2 := sorry
theorem eq_undo {e : pu_E} {f : mo_E} (R : pu_Rel e f) : (mo_undo f).1 = (pu_undo e).1 ∧ pu_Rel (pu_undo e).2 (mo_undo f).2 := sorry
theorem eq_freeze {e : pu_E} {f : mo_E} (R : pu_Rel e f) (d w : Int → Int) : (mo_freeze w f).1 = (pu_freeze d e).1 ∧ pu_Rel (pu_freeze d e).2 (mo_freeze w f).2 := sorry
theorem eq_told {e : pu_E} {f : mo_E} (R : pu_Rel e f) (wh : Int) {u : pu_K} (hu : pu_KB u) (v : mo_U) (hv : (∀ k, 0 ≤ v.2.1 k ∧ v.2.1 k ≤ 40) ∧ (∀ k, 0 ≤ v.2.2 k ∧ v.2.2 k ≤ 40)) : mo_told wh f.1 f.2.2 v = pu_told wh e.1 e.2.1 e.2.2.1 u := sorry
theorem eq_column {e : pu_E} {f : mo_E} (R : pu_Rel e f) (i wh : Int) {u : pu_K} (hu : pu_KB u) : mo_column i wh f.1 = pu_column i wh e.1 e.2.1 u := sorry
theorem eq_stair {e : pu_E} {f : mo_E} (R : pu_Rel e f) (i q : Int) : mo_stair i q f.1 = pu_stair e.1 e.2.1 i q := sorry
theorem eq_range {e : pu_E} {f : mo_E} (R : pu_Rel e f) (a b wh : Int) {u : pu_K} (hu : pu_KB u) : mo_range a b wh f.1 = pu_range a b wh e.1 e.2.1 u := sorry
theorem eq_rectangle {e : pu_E} {f : mo_E} (R : pu_Rel e f) (q wh : Int) {u : pu_K} (hu : pu_KB u) (v : mo_U) : mo_rectangle q wh f.1 v = pu_rectangle q wh e.1 e.2.1 u := sorry
theorem eq_container {e : pu_E} {f : mo_E} (R : pu_Rel e f) (wh : Int) : mo_container wh f.1 = pu_container e.1 e.2.1 wh := sorry
theorem eq_pool {e : pu_E} {f : mo_E} (R : pu_Rel e f) (q wh : Int) {u : pu_K} (hu : pu_KB u) : mo_pool q wh f.1 = pu_pool q wh e.1 e.2.1 u := sorry
theorem eq_drained {e : pu_E} {f : mo_E} (R : pu_Rel e f) (i : Int) {u : pu_K} (hu : pu_KB u) : mo_drained i f.1 = pu_drained i e.1 e.2.1 u := sorry
theorem eq_dam {e : pu_E} {f : mo_E} (R : pu_Rel e f) (d wh : Int) {u : pu_K} (hu : pu_KB u) : mo_dam d wh f.1 = pu_dam d wh e.1 e.2.1 u := sorry
theorem eq_som {e : pu_E} {f : mo_E} (R : pu_Rel e f) : mo_som f.1 = pu_som e.1 e.2.1 := sorry
theorem eq_ranges {e : pu_E} {f : mo_E} (R : pu_Rel e f) (lo : Int) : mo_ranges lo f.1 = pu_ranges e.1 e.2.1 lo := sorry
