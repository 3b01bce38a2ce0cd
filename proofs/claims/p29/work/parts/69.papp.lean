/-! the worlds, part by part -/
theorem P_app {D : va_G} {cl : List vw_C} {a b : va_W} {H : Heap} : va_P D cl (a ++ b) H ↔ va_P D cl a H ∧ va_P D cl b H := by
  constructor
  · intro h
    refine ⟨fun k q hk => h k q ?_, fun k q hk => h (a.length + k) q ?_⟩
    · obtain ⟨hl, -⟩ := List.getElem?_eq_some_iff.mp hk
      rw [List.getElem?_append_left hl]; exact hk
    · rw [List.getElem?_append_right (by omega), show a.length + k - a.length = k by omega]; exact hk
  · intro h k q hk
    rcases Nat.lt_or_ge k a.length with hl | hl
    · rw [List.getElem?_append_left hl] at hk; exact h.1 k q hk
    · rw [List.getElem?_append_right hl] at hk; exact h.2 _ q hk
theorem at_cong {D : va_G} {cl : List vw_C} {q : Nat × va_E} {H H1 : Heap} (h : va_at D cl q H) (e : H1[q.1]? = H[q.1]?) : va_at D cl q H1 := by
  unfold va_at at h ⊢
  split at h
  · rw [e]; exact h
  · obtain ⟨r, h1, cell, q1, q2⟩ := h
    exact ⟨r, h1, cell, by rw [e]; exact q1, q2⟩
theorem P_cong {D : va_G} {cl : List vw_C} {ws : va_W} {H H1 : Heap} (h : va_P D cl ws H) (e : ∀ (k : Nat) (q : Nat × va_E), ws[k]? = some q → H1[q.1]? = H[q.1]?) : va_P D cl ws H1 := fun k q hk => at_cong (h k q hk) (e k q hk)
