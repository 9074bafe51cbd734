theorem eq_told {e : pu_E} {f : mo_E} (R : pu_Rel e f) (wh : Int) {u : pu_K} (hu : pu_KB u) (v : mo_U) (hv : (∀ k, 0 ≤ v.2.1 k ∧ v.2.1 k ≤ 40) ∧ (∀ k, 0 ≤ v.2.2 k ∧ v.2.2 k ≤ 40)) : mo_told wh f.1 f.2.2 v = pu_told wh e.1 e.2.1 e.2.2.1 u := sorry
theorem eq_column {e : pu_E} {f : mo_E} (R : pu_Rel e f) (i wh : Int) {u : pu_K} (hu : pu_KB u) : mo_column i wh f.1 = pu_column i wh e.1 e.2.1 u := sorry
theorem eq_stair {e : pu_E} {f : mo_E} (R : pu_Rel e f) (i q : Int) : mo_stair i q f.1 = pu_stair e.1 e.2.1 i q := sorry
theorem eq_range {e : pu_E} {f : mo_E} (R : pu_Rel e f) (a b wh : Int) {u : pu_K} (hu : pu_KB u) : mo_range a b wh f.1 = pu_range a b wh e.1 e.2.1 u := sorry
theorem eq_rectangle {e : pu_E} {f : mo_E} (R : pu_Rel e f) (q wh : Int) {u : pu_K} (hu : pu_KB u) (v : mo_U) : mo_rectangle q wh f.1 v = pu_rectangle q wh e.1 e.2.1 u := sorry
theorem eq_container {e : pu_E} {f : mo_E} (R : pu_Rel e f) (wh : Int) : mo_container wh f.1 = pu_container e.1 e.2.1 wh := sorry
theorem eq_pool {e : pu_E} {f : mo_E} (R : pu_Rel e f) (q wh : Int) {u : pu_K} (hu : pu_KB u) : mo_pool q wh f.1 = pu_pool q wh e.1 e.2.1 u := sorry
theorem eq_drained {e : pu_E} {f : mo_E} (R : pu_Rel e f) (i : Int) {u : pu_K} (hu : pu_KB u) : mo_drained i f.1 = pu_drained i e.1 e.2.1 u := sorry
theorem eq_dam {e : pu_E} {f : mo_E} (R : pu_Rel e f) (d wh : Int) {u : pu_K} (hu : pu_KB u) : mo_dam d wh f.1 = pu_dam d wh e.1 e.2.1 u := sorry
theorem eq_som {e : pu_E} {f : mo_E} (R : pu_Rel e f) : mo_som f.1 = pu_som e.1 e.2.1 := sorry
theorem eq_ranges {e : pu_E} {f : mo_E} (R : pu_Rel e f) (lo : Int) : mo_ranges lo f.1 = pu_ranges e.1 e.2.1 lo := sorry
