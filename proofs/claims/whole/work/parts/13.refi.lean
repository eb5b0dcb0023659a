/-! what the reference holds of a state, part by part (by program) -/
def mtab : Nat → Option (Nat × Nat) := fun F => match F with
  | 1549 => some (20, 60)
  | 1550 => some (20, 60)
  | 1551 => some (20, 60)
  | 1552 => some (20, 60)
  | 1553 => some (20, 60)
  | 1554 => some (20, 60)
  | 1555 => some (20, 60)
  | 1556 => some (20, 200)
  | 1557 => some (20, 200)
  | 1558 => some (20, 200)
  | 1559 => some (20, 200)
  | 1560 => some (20, 600)
  | 1561 => some (20, 600)
  | 1562 => some (20, 600)
  | 1563 => some (20, 600)
  | 1564 => some (20, 600)
  | 1565 => some (20, 200)
  | 1566 => some (20, 200)
  | 1567 => some (20, 200)
  | 1568 => some (20, 200)
  | 1571 => some (20, 400)
  | 1572 => some (20, 400)
  | 1573 => some (20, 400)
  | 1574 => some (20, 600)
  | 1575 => some (20, 600)
  | 1576 => some (20, 600)
  | 1577 => some (21, 600)
  | 1578 => some (20, 100)
  | 1579 => some (20, 100)
  | 1580 => some (20, 100)
  | 1581 => some (20, 200)
  | 1582 => some (20, 15600)
  | 1583 => some (20, 520)
  | 1584 => some (20, 30)
  | 1585 => some (20, 30)
  | 1586 => some (20, 30)
  | 1587 => some (20, 30)
  | 1594 => some (20, 260)
  | 1596 => some (20, 200)
  | 1597 => some (20, 200)
  | 1598 => some (20, 200)
  | 1599 => some (20, 200)
  | 1600 => some (20, 200)
  | 1601 => some (20, 200)
  | 1607 => some (21, 200)
  | 1608 => some (20, 200)
  | 1609 => some (20, 200)
  | 1610 => some (20, 12)
  | 1611 => some (20, 12)
  | 1612 => some (20, 12)
  | 1613 => some (20, 12)
  | 1614 => some (20, 12)
  | 1616 => some (20, 81)
  | 1617 => some (21, 8)
  | 1618 => some (20, 8)
  | 1619 => some (20, 8)
  | 1620 => some (21, 8)
  | 1621 => some (20, 8)
  | 1622 => some (20, 8)
  | 1626 => some (20, 4)
  | 1627 => some (20, 200)
  | 1628 => some (20, 200)
  | 1629 => some (20, 40)
  | 1630 => some (20, 40)
  | _ => none
def RefS (m : Nat) (ma : Nat → Nat) (g : GH) : Prop := Kd g m = 13 ∧ ∀ F kd n, mtab F = some (kd, n) → Gr g F m = some (ma F) ∧ Kd g (ma F) = kd ∧ Co g (ma F) = F ∧ Ow g (ma F) = m ∧ Ln g (ma F) = n
def R_vot (m : Nat) (g : GH) (L : List (Int32 × Int32 × Int32)) : Prop := Gi g 1537 m = nI L.length ∧ L.length ≤ 60 ∧ ∀ k x, L[k]? = some x → Ia g 1549 m k = x.1 ∧ Ia g 1550 m k = x.2.1 ∧ Ia g 1551 m k = x.2.2
theorem R_vot_push {m : Nat} {g g' : GH} {L : List (Int32 × Int32 × Int32)} {x : (Int32 × Int32 × Int32)} (h : R_vot m g L) (hl : L.length < 60) (hc : Gi g' 1537 m = nI (L.length + 1)) (h0 : ∀ k, Ia g' 1549 m k = if k = L.length then x.1 else Ia g 1549 m k) (h1 : ∀ k, Ia g' 1550 m k = if k = L.length then x.2.1 else Ia g 1550 m k) (h2 : ∀ k, Ia g' 1551 m k = if k = L.length then x.2.2 else Ia g 1551 m k) : R_vot m g' (L ++ [x]) := by
  obtain ⟨e1, e2, e3⟩ := h
  refine ⟨by rw [hc, List.length_append]; rfl, by rw [List.length_append]; exact hl, fun k y hy => ?_⟩
  rw [List.getElem?_append] at hy
  split at hy
  · rename_i hk
    have := e3 k y hy
    have hne : ¬ k = L.length := by omega
    simp only [h0, h1, h2, hne, if_false]
    exact this
  · have hk : k = L.length := by
      have := (List.getElem?_eq_some_iff.mp hy).1
      simp at this; omega
    subst hk
    simp at hy
    subst hy
    simp [h0, h1, h2]
def R_mov (m : Nat) (g : GH) (L : List (Int32 × Int32 × Int32 × Int32)) : Prop := Gi g 1538 m = nI L.length ∧ L.length ≤ 60 ∧ ∀ k x, L[k]? = some x → Ia g 1552 m k = x.1 ∧ Ia g 1553 m k = x.2.1 ∧ Ia g 1554 m k = x.2.2.1 ∧ Ia g 1555 m k = x.2.2.2
theorem R_mov_push {m : Nat} {g g' : GH} {L : List (Int32 × Int32 × Int32 × Int32)} {x : (Int32 × Int32 × Int32 × Int32)} (h : R_mov m g L) (hl : L.length < 60) (hc : Gi g' 1538 m = nI (L.length + 1)) (h0 : ∀ k, Ia g' 1552 m k = if k = L.length then x.1 else Ia g 1552 m k) (h1 : ∀ k, Ia g' 1553 m k = if k = L.length then x.2.1 else Ia g 1553 m k) (h2 : ∀ k, Ia g' 1554 m k = if k = L.length then x.2.2.1 else Ia g 1554 m k) (h3 : ∀ k, Ia g' 1555 m k = if k = L.length then x.2.2.2 else Ia g 1555 m k) : R_mov m g' (L ++ [x]) := by
  obtain ⟨e1, e2, e3⟩ := h
  refine ⟨by rw [hc, List.length_append]; rfl, by rw [List.length_append]; exact hl, fun k y hy => ?_⟩
  rw [List.getElem?_append] at hy
  split at hy
  · rename_i hk
    have := e3 k y hy
    have hne : ¬ k = L.length := by omega
    simp only [h0, h1, h2, h3, hne, if_false]
    exact this
  · have hk : k = L.length := by
      have := (List.getElem?_eq_some_iff.mp hy).1
      simp at this; omega
    subst hk
    simp at hy
    subst hy
    simp [h0, h1, h2, h3]
def R_env (m : Nat) (g : GH) (L : List (Int32 × Int32 × Int32 × Int32)) : Prop := Gi g 1539 m = nI L.length ∧ L.length ≤ 200 ∧ ∀ k x, L[k]? = some x → Ia g 1556 m k = x.1 ∧ Ia g 1557 m k = x.2.1 ∧ Ia g 1558 m k = x.2.2.1 ∧ Ia g 1559 m k = x.2.2.2
theorem R_env_push {m : Nat} {g g' : GH} {L : List (Int32 × Int32 × Int32 × Int32)} {x : (Int32 × Int32 × Int32 × Int32)} (h : R_env m g L) (hl : L.length < 200) (hc : Gi g' 1539 m = nI (L.length + 1)) (h0 : ∀ k, Ia g' 1556 m k = if k = L.length then x.1 else Ia g 1556 m k) (h1 : ∀ k, Ia g' 1557 m k = if k = L.length then x.2.1 else Ia g 1557 m k) (h2 : ∀ k, Ia g' 1558 m k = if k = L.length then x.2.2.1 else Ia g 1558 m k) (h3 : ∀ k, Ia g' 1559 m k = if k = L.length then x.2.2.2 else Ia g 1559 m k) : R_env m g' (L ++ [x]) := by
  obtain ⟨e1, e2, e3⟩ := h
  refine ⟨by rw [hc, List.length_append]; rfl, by rw [List.length_append]; exact hl, fun k y hy => ?_⟩
  rw [List.getElem?_append] at hy
  split at hy
  · rename_i hk
    have := e3 k y hy
    have hne : ¬ k = L.length := by omega
    simp only [h0, h1, h2, h3, hne, if_false]
    exact this
  · have hk : k = L.length := by
      have := (List.getElem?_eq_some_iff.mp hy).1
      simp at this; omega
    subst hk
    simp at hy
    subst hy
    simp [h0, h1, h2, h3]
def R_evt (m : Nat) (g : GH) (L : List (Int32 × Int32 × Int32 × Int32 × Int32)) : Prop := Gi g 1540 m = nI L.length ∧ L.length ≤ 600 ∧ ∀ k x, L[k]? = some x → Ia g 1560 m k = x.1 ∧ Ia g 1561 m k = x.2.1 ∧ Ia g 1562 m k = x.2.2.1 ∧ Ia g 1563 m k = x.2.2.2.1 ∧ Ia g 1564 m k = x.2.2.2.2
theorem R_evt_push {m : Nat} {g g' : GH} {L : List (Int32 × Int32 × Int32 × Int32 × Int32)} {x : (Int32 × Int32 × Int32 × Int32 × Int32)} (h : R_evt m g L) (hl : L.length < 600) (hc : Gi g' 1540 m = nI (L.length + 1)) (h0 : ∀ k, Ia g' 1560 m k = if k = L.length then x.1 else Ia g 1560 m k) (h1 : ∀ k, Ia g' 1561 m k = if k = L.length then x.2.1 else Ia g 1561 m k) (h2 : ∀ k, Ia g' 1562 m k = if k = L.length then x.2.2.1 else Ia g 1562 m k) (h3 : ∀ k, Ia g' 1563 m k = if k = L.length then x.2.2.2.1 else Ia g 1563 m k) (h4 : ∀ k, Ia g' 1564 m k = if k = L.length then x.2.2.2.2 else Ia g 1564 m k) : R_evt m g' (L ++ [x]) := by
  obtain ⟨e1, e2, e3⟩ := h
  refine ⟨by rw [hc, List.length_append]; rfl, by rw [List.length_append]; exact hl, fun k y hy => ?_⟩
  rw [List.getElem?_append] at hy
  split at hy
  · rename_i hk
    have := e3 k y hy
    have hne : ¬ k = L.length := by omega
    simp only [h0, h1, h2, h3, h4, hne, if_false]
    exact this
  · have hk : k = L.length := by
      have := (List.getElem?_eq_some_iff.mp hy).1
      simp at this; omega
    subst hk
    simp at hy
    subst hy
    simp [h0, h1, h2, h3, h4]
def R_emp (m : Nat) (g : GH) (L : List (Int32 × Int32 × Int32 × Int32)) : Prop := Gi g 1541 m = nI L.length ∧ L.length ≤ 200 ∧ ∀ k x, L[k]? = some x → Ia g 1565 m k = x.1 ∧ Ia g 1566 m k = x.2.1 ∧ Ia g 1567 m k = x.2.2.1 ∧ Ia g 1568 m k = x.2.2.2
theorem R_emp_push {m : Nat} {g g' : GH} {L : List (Int32 × Int32 × Int32 × Int32)} {x : (Int32 × Int32 × Int32 × Int32)} (h : R_emp m g L) (hl : L.length < 200) (hc : Gi g' 1541 m = nI (L.length + 1)) (h0 : ∀ k, Ia g' 1565 m k = if k = L.length then x.1 else Ia g 1565 m k) (h1 : ∀ k, Ia g' 1566 m k = if k = L.length then x.2.1 else Ia g 1566 m k) (h2 : ∀ k, Ia g' 1567 m k = if k = L.length then x.2.2.1 else Ia g 1567 m k) (h3 : ∀ k, Ia g' 1568 m k = if k = L.length then x.2.2.2 else Ia g 1568 m k) : R_emp m g' (L ++ [x]) := by
  obtain ⟨e1, e2, e3⟩ := h
  refine ⟨by rw [hc, List.length_append]; rfl, by rw [List.length_append]; exact hl, fun k y hy => ?_⟩
  rw [List.getElem?_append] at hy
  split at hy
  · rename_i hk
    have := e3 k y hy
    have hne : ¬ k = L.length := by omega
    simp only [h0, h1, h2, h3, hne, if_false]
    exact this
  · have hk : k = L.length := by
      have := (List.getElem?_eq_some_iff.mp hy).1
      simp at this; omega
    subst hk
    simp at hy
    subst hy
    simp [h0, h1, h2, h3]
def R_rea (m : Nat) (g : GH) (L : List (Int32 × Int32 × Int32)) : Prop := Gi g 1542 m = nI L.length ∧ L.length ≤ 400 ∧ ∀ k x, L[k]? = some x → Ia g 1571 m k = x.1 ∧ Ia g 1572 m k = x.2.1 ∧ Ia g 1573 m k = x.2.2
theorem R_rea_push {m : Nat} {g g' : GH} {L : List (Int32 × Int32 × Int32)} {x : (Int32 × Int32 × Int32)} (h : R_rea m g L) (hl : L.length < 400) (hc : Gi g' 1542 m = nI (L.length + 1)) (h0 : ∀ k, Ia g' 1571 m k = if k = L.length then x.1 else Ia g 1571 m k) (h1 : ∀ k, Ia g' 1572 m k = if k = L.length then x.2.1 else Ia g 1572 m k) (h2 : ∀ k, Ia g' 1573 m k = if k = L.length then x.2.2 else Ia g 1573 m k) : R_rea m g' (L ++ [x]) := by
  obtain ⟨e1, e2, e3⟩ := h
  refine ⟨by rw [hc, List.length_append]; rfl, by rw [List.length_append]; exact hl, fun k y hy => ?_⟩
  rw [List.getElem?_append] at hy
  split at hy
  · rename_i hk
    have := e3 k y hy
    have hne : ¬ k = L.length := by omega
    simp only [h0, h1, h2, hne, if_false]
    exact this
  · have hk : k = L.length := by
      have := (List.getElem?_eq_some_iff.mp hy).1
      simp at this; omega
    subst hk
    simp at hy
    subst hy
    simp [h0, h1, h2]
def R_tel (m : Nat) (g : GH) (L : List (Int32 × Int32 × Int32 × Int32)) : Prop := Gi g 1543 m = nI L.length ∧ L.length ≤ 600 ∧ ∀ k x, L[k]? = some x → Ia g 1574 m k = x.1 ∧ Ia g 1575 m k = x.2.1 ∧ Ia g 1576 m k = x.2.2.1 ∧ Ia g 1577 m k = x.2.2.2
theorem R_tel_push {m : Nat} {g g' : GH} {L : List (Int32 × Int32 × Int32 × Int32)} {x : (Int32 × Int32 × Int32 × Int32)} (h : R_tel m g L) (hl : L.length < 600) (hc : Gi g' 1543 m = nI (L.length + 1)) (h0 : ∀ k, Ia g' 1574 m k = if k = L.length then x.1 else Ia g 1574 m k) (h1 : ∀ k, Ia g' 1575 m k = if k = L.length then x.2.1 else Ia g 1575 m k) (h2 : ∀ k, Ia g' 1576 m k = if k = L.length then x.2.2.1 else Ia g 1576 m k) (h3 : ∀ k, Ia g' 1577 m k = if k = L.length then x.2.2.2 else Ia g 1577 m k) : R_tel m g' (L ++ [x]) := by
  obtain ⟨e1, e2, e3⟩ := h
  refine ⟨by rw [hc, List.length_append]; rfl, by rw [List.length_append]; exact hl, fun k y hy => ?_⟩
  rw [List.getElem?_append] at hy
  split at hy
  · rename_i hk
    have := e3 k y hy
    have hne : ¬ k = L.length := by omega
    simp only [h0, h1, h2, h3, hne, if_false]
    exact this
  · have hk : k = L.length := by
      have := (List.getElem?_eq_some_iff.mp hy).1
      simp at this; omega
    subst hk
    simp at hy
    subst hy
    simp [h0, h1, h2, h3]
def R_boo (m : Nat) (g : GH) (L : List (Int32 × Int32 × Int32)) : Prop := Gi g 1544 m = nI L.length ∧ L.length ≤ 100 ∧ ∀ k x, L[k]? = some x → Ia g 1578 m k = x.1 ∧ Ia g 1579 m k = x.2.1 ∧ Ia g 1580 m k = x.2.2
theorem R_boo_push {m : Nat} {g g' : GH} {L : List (Int32 × Int32 × Int32)} {x : (Int32 × Int32 × Int32)} (h : R_boo m g L) (hl : L.length < 100) (hc : Gi g' 1544 m = nI (L.length + 1)) (h0 : ∀ k, Ia g' 1578 m k = if k = L.length then x.1 else Ia g 1578 m k) (h1 : ∀ k, Ia g' 1579 m k = if k = L.length then x.2.1 else Ia g 1579 m k) (h2 : ∀ k, Ia g' 1580 m k = if k = L.length then x.2.2 else Ia g 1580 m k) : R_boo m g' (L ++ [x]) := by
  obtain ⟨e1, e2, e3⟩ := h
  refine ⟨by rw [hc, List.length_append]; rfl, by rw [List.length_append]; exact hl, fun k y hy => ?_⟩
  rw [List.getElem?_append] at hy
  split at hy
  · rename_i hk
    have := e3 k y hy
    have hne : ¬ k = L.length := by omega
    simp only [h0, h1, h2, hne, if_false]
    exact this
  · have hk : k = L.length := by
      have := (List.getElem?_eq_some_iff.mp hy).1
      simp at this; omega
    subst hk
    simp at hy
    subst hy
    simp [h0, h1, h2]
def R_wav (m : Nat) (g : GH) (L : List (Int32 × Int32 × Int32)) : Prop := Gi g 1546 m = nI L.length ∧ L.length ≤ 12 ∧ ∀ k x, L[k]? = some x → Ia g 1610 m k = x.1 ∧ Ia g 1611 m k = x.2.1 ∧ Ia g 1612 m k = x.2.2
theorem R_wav_push {m : Nat} {g g' : GH} {L : List (Int32 × Int32 × Int32)} {x : (Int32 × Int32 × Int32)} (h : R_wav m g L) (hl : L.length < 12) (hc : Gi g' 1546 m = nI (L.length + 1)) (h0 : ∀ k, Ia g' 1610 m k = if k = L.length then x.1 else Ia g 1610 m k) (h1 : ∀ k, Ia g' 1611 m k = if k = L.length then x.2.1 else Ia g 1611 m k) (h2 : ∀ k, Ia g' 1612 m k = if k = L.length then x.2.2 else Ia g 1612 m k) : R_wav m g' (L ++ [x]) := by
  obtain ⟨e1, e2, e3⟩ := h
  refine ⟨by rw [hc, List.length_append]; rfl, by rw [List.length_append]; exact hl, fun k y hy => ?_⟩
  rw [List.getElem?_append] at hy
  split at hy
  · rename_i hk
    have := e3 k y hy
    have hne : ¬ k = L.length := by omega
    simp only [h0, h1, h2, hne, if_false]
    exact this
  · have hk : k = L.length := by
      have := (List.getElem?_eq_some_iff.mp hy).1
      simp at this; omega
    subst hk
    simp at hy
    subst hy
    simp [h0, h1, h2]
def R_hea (m : Nat) (g : GH) (L : List (Int32 × Int32)) : Prop := Gi g 1547 m = nI L.length ∧ L.length ≤ 40 ∧ ∀ k x, L[k]? = some x → Ia g 1629 m k = x.1 ∧ Ia g 1630 m k = x.2
theorem R_hea_push {m : Nat} {g g' : GH} {L : List (Int32 × Int32)} {x : (Int32 × Int32)} (h : R_hea m g L) (hl : L.length < 40) (hc : Gi g' 1547 m = nI (L.length + 1)) (h0 : ∀ k, Ia g' 1629 m k = if k = L.length then x.1 else Ia g 1629 m k) (h1 : ∀ k, Ia g' 1630 m k = if k = L.length then x.2 else Ia g 1630 m k) : R_hea m g' (L ++ [x]) := by
  obtain ⟨e1, e2, e3⟩ := h
  refine ⟨by rw [hc, List.length_append]; rfl, by rw [List.length_append]; exact hl, fun k y hy => ?_⟩
  rw [List.getElem?_append] at hy
  split at hy
  · rename_i hk
    have := e3 k y hy
    have hne : ¬ k = L.length := by omega
    simp only [h0, h1, hne, if_false]
    exact this
  · have hk : k = L.length := by
      have := (List.getElem?_eq_some_iff.mp hy).1
      simp at this; omega
    subst hk
    simp at hy
    subst hy
    simp [h0, h1]
def R_tap (m : Nat) (g : GH) (L : List Int32) : Prop := Gi g 1588 m = nI L.length ∧ L.length ≤ 200 ∧ ∀ k x, L[k]? = some x → Ia g 1581 m k = x
/-- a condition's or a sum's words as the reference says them -/
def enW (w : Int32) : List Int32 := if 0 ≤ w then [0, w] else if 97 ≤ -w ∧ -w ≤ 122 then [1, -w] else [-w]
def enC (c : List Int32) : List Int32 := c.flatMap enW
def enR (r : List Int32 × Int32 × List Int32) : List Int32 := enC r.1 ++ [2, r.2.1] ++ enC r.2.2 ++ [3]
def enL (L : List (List Int32 × Int32 × List Int32)) : List Int32 := L.flatMap enR
def R_law (m : Nat) (g : GH) (L : List (Int32 × Int32 × Int32 × List (List Int32 × Int32 × List Int32))) : Prop := Gi g 1545 m = nI L.length ∧ L.length ≤ 30 ∧ ∀ k x, L[k]? = some x → Ia g 1584 m k = x.1 ∧ Ia g 1585 m k = x.2.1 ∧ Ia g 1586 m k = x.2.2.1 ∧ Ia g 1587 m k = nI x.2.2.2.length ∧ (enL x.2.2.2).length ≤ 520 ∧ ∀ j v, (enL x.2.2.2)[j]? = some v → Ia g 1582 m (520 * k + j) = v
def R_hof (m : Nat) (g : GH) (f : Nat → Nat) : Prop := ∀ k, k < 200 → Ia g 1628 m k = nI (f k)
def R_box (m : Nat) (g : GH) (b : Nat → Option (Int32 × Int32)) : Prop := ∀ k, k < 8 → (b k = none → Ia g 1617 m k = 0) ∧ ∀ x, b k = some x → Ia g 1617 m k = 1 ∧ Ia g 1618 m k = x.1 ∧ Ia g 1619 m k = x.2
def R_roa (m : Nat) (g : GH) (r : Nat → Int32) : Prop := ∀ a b, a < 9 → b < 9 → a ≠ b → Ia g 1616 m (9 * a + b) = r (9 * a + b)
def R_las (m : Nat) (g : GH) (f : Nat → Int32) : Prop := ∀ k, k < 4 → Ia g 1626 m k = f k
def RefI (m : Nat) (ma : Nat → Nat) (g : GH) (s : ST) : Prop := RefS m ma g ∧ Gi g 1536 m = s_now s ∧ Gi g 1548 m = s_siz s ∧ Gi g 1615 m = s_prs s ∧ Gi g 1623 m = s_stp s ∧ R_vot m g (s_vot s) ∧ R_mov m g (s_mov s) ∧ R_env m g (s_env s) ∧ R_evt m g (s_evt s) ∧ R_emp m g (s_emp s) ∧ R_rea m g (s_rea s) ∧ R_tel m g (s_tel s) ∧ R_boo m g (s_boo s) ∧ R_wav m g (s_wav s) ∧ R_hea m g (s_hea s) ∧ R_tap m g (s_tap s) ∧ R_law m g (s_law s) ∧ R_hof m g (s_hof s) ∧ R_box m g (s_box s) ∧ R_roa m g (s_roa s) ∧ R_las m g (s_las s)
theorem RefI.now {m : Nat} {ma : Nat → Nat} {g : GH} {s : ST} (h : RefI m ma g s) : Gi g 1536 m = s_now s := h.2.1
theorem RefI.siz {m : Nat} {ma : Nat → Nat} {g : GH} {s : ST} (h : RefI m ma g s) : Gi g 1548 m = s_siz s := h.2.2.1
theorem RefI.prs {m : Nat} {ma : Nat → Nat} {g : GH} {s : ST} (h : RefI m ma g s) : Gi g 1615 m = s_prs s := h.2.2.2.1
theorem RefI.stp {m : Nat} {ma : Nat → Nat} {g : GH} {s : ST} (h : RefI m ma g s) : Gi g 1623 m = s_stp s := h.2.2.2.2.1
theorem RefI.vot {m : Nat} {ma : Nat → Nat} {g : GH} {s : ST} (h : RefI m ma g s) : R_vot m g (s_vot s) := h.2.2.2.2.2.1
theorem RefI.mov {m : Nat} {ma : Nat → Nat} {g : GH} {s : ST} (h : RefI m ma g s) : R_mov m g (s_mov s) := h.2.2.2.2.2.2.1
theorem RefI.env {m : Nat} {ma : Nat → Nat} {g : GH} {s : ST} (h : RefI m ma g s) : R_env m g (s_env s) := h.2.2.2.2.2.2.2.1
theorem RefI.evt {m : Nat} {ma : Nat → Nat} {g : GH} {s : ST} (h : RefI m ma g s) : R_evt m g (s_evt s) := h.2.2.2.2.2.2.2.2.1
theorem RefI.emp {m : Nat} {ma : Nat → Nat} {g : GH} {s : ST} (h : RefI m ma g s) : R_emp m g (s_emp s) := h.2.2.2.2.2.2.2.2.2.1
theorem RefI.rea {m : Nat} {ma : Nat → Nat} {g : GH} {s : ST} (h : RefI m ma g s) : R_rea m g (s_rea s) := h.2.2.2.2.2.2.2.2.2.2.1
theorem RefI.tel {m : Nat} {ma : Nat → Nat} {g : GH} {s : ST} (h : RefI m ma g s) : R_tel m g (s_tel s) := h.2.2.2.2.2.2.2.2.2.2.2.1
theorem RefI.boo {m : Nat} {ma : Nat → Nat} {g : GH} {s : ST} (h : RefI m ma g s) : R_boo m g (s_boo s) := h.2.2.2.2.2.2.2.2.2.2.2.2.1
theorem RefI.wav {m : Nat} {ma : Nat → Nat} {g : GH} {s : ST} (h : RefI m ma g s) : R_wav m g (s_wav s) := h.2.2.2.2.2.2.2.2.2.2.2.2.2.1
theorem RefI.hea {m : Nat} {ma : Nat → Nat} {g : GH} {s : ST} (h : RefI m ma g s) : R_hea m g (s_hea s) := h.2.2.2.2.2.2.2.2.2.2.2.2.2.2.1
theorem RefI.tap {m : Nat} {ma : Nat → Nat} {g : GH} {s : ST} (h : RefI m ma g s) : R_tap m g (s_tap s) := h.2.2.2.2.2.2.2.2.2.2.2.2.2.2.2.1
theorem RefI.law {m : Nat} {ma : Nat → Nat} {g : GH} {s : ST} (h : RefI m ma g s) : R_law m g (s_law s) := h.2.2.2.2.2.2.2.2.2.2.2.2.2.2.2.2.1
theorem RefI.hof {m : Nat} {ma : Nat → Nat} {g : GH} {s : ST} (h : RefI m ma g s) : R_hof m g (s_hof s) := h.2.2.2.2.2.2.2.2.2.2.2.2.2.2.2.2.2.1
theorem RefI.box {m : Nat} {ma : Nat → Nat} {g : GH} {s : ST} (h : RefI m ma g s) : R_box m g (s_box s) := h.2.2.2.2.2.2.2.2.2.2.2.2.2.2.2.2.2.2.1
theorem RefI.roa {m : Nat} {ma : Nat → Nat} {g : GH} {s : ST} (h : RefI m ma g s) : R_roa m g (s_roa s) := h.2.2.2.2.2.2.2.2.2.2.2.2.2.2.2.2.2.2.2.1
theorem RefI.las {m : Nat} {ma : Nat → Nat} {g : GH} {s : ST} (h : RefI m ma g s) : R_las m g (s_las s) := h.2.2.2.2.2.2.2.2.2.2.2.2.2.2.2.2.2.2.2.2
/-- what a call of the reference leaves alone -/
def FrM (m : Nat) (g g' : GH) : Prop := (∀ f a, a ≠ m → Gi g' f a = Gi g f a) ∧ Gr g' = Gr g ∧ (∀ c o, o ≠ m → Ia g' c o = Ia g c o) ∧ Ra g' = Ra g ∧ La g' = La g ∧ Kd g' = Kd g ∧ Co g' = Co g ∧ Ow g' = Ow g ∧ Ln g' = Ln g ∧ Lq g' = Lq g ∧ Hn g' = Hn g ∧ Hu g' = Hu g
theorem FrM.rf {m : Nat} {g : GH} : FrM m g g := ⟨fun _ _ _ => rfl, rfl, fun _ _ _ => rfl, rfl, rfl, rfl, rfl, rfl, rfl, rfl, rfl, rfl⟩
theorem FrM.tr {m : Nat} {g g1 g2 : GH} (h : FrM m g g1) (k : FrM m g1 g2) : FrM m g g2 := by
  obtain ⟨a1, a2, a3, a4, a5, a6, a7, a8, a9, a10, a11, a12⟩ := h
  obtain ⟨b1, b2, b3, b4, b5, b6, b7, b8, b9, b10, b11, b12⟩ := k
  exact ⟨fun f a n => (b1 f a n).trans (a1 f a n), b2.trans a2, fun c o n => (b3 c o n).trans (a3 c o n), b4.trans a4, b5.trans a5, b6.trans a6, b7.trans a7, b8.trans a8, b9.trans a9, b10.trans a10, b11.trans a11, b12.trans a12⟩
theorem FrM.sI {m : Nat} {g : GH} {f : Nat} {v : Int32} : FrM m g (sI g f m v) := ⟨fun f' a h => by rw [Gi_sI, if_neg (fun q => h q.2)], rfl, fun _ _ _ => rfl, rfl, rfl, rfl, rfl, rfl, rfl, rfl, rfl, rfl⟩
theorem FrM.sA {m : Nat} {g : GH} {c i : Nat} {v : Int32} : FrM m g (sA g c m i v) := ⟨fun _ _ _ => rfl, rfl, fun c' o h => by funext j; rw [Ia_sA, if_neg (fun q => h q.2.1)], rfl, rfl, rfl, rfl, rfl, rfl, rfl, rfl, rfl⟩
theorem FrM.s {m : Nat} {ma : Nat → Nat} {g g' : GH} (h : FrM m g g') (k : RefS m ma g) : RefS m ma g' := by
  obtain ⟨a1, a2, a3, a4, a5, a6, a7, a8, a9, a10, a11, a12⟩ := h
  unfold RefS
  rw [a2, a6, a7, a8, a9]
  exact k
theorem ifz {p : Prop} (d : Decidable p) : ((@ite Int32 p d 1 0) = 0) ↔ ¬ p := by
  by_cases h : p <;> simp [h]
/-- what holds the state: not the notes that a call makes for itself -/
def mPF : List Nat := [1536, 1548, 1615, 1623, 1537, 1538, 1539, 1540, 1541, 1542, 1543, 1544, 1546, 1547, 1588, 1545]
def mPA : List Nat := [1549, 1550, 1551, 1552, 1553, 1554, 1555, 1556, 1557, 1558, 1559, 1560, 1561, 1562, 1563, 1564, 1565, 1566, 1567, 1568, 1571, 1572, 1573, 1574, 1575, 1576, 1577, 1578, 1579, 1580, 1610, 1611, 1612, 1629, 1630, 1581, 1584, 1585, 1586, 1587, 1582, 1628, 1617, 1618, 1619, 1616, 1626]
/-- a call that writes at most the fields fs and the arrays cs of the reference -/
def FrX (m : Nat) (fs cs : List Nat) (g g' : GH) : Prop := FrM m g g' ∧ (∀ f, f ∉ fs → Gi g' f m = Gi g f m) ∧ (∀ c, c ∉ cs → Ia g' c m = Ia g c m)
theorem FrX.rf {m : Nat} {fs cs : List Nat} {g : GH} : FrX m fs cs g g := ⟨FrM.rf, fun _ _ => rfl, fun _ _ => rfl⟩
theorem FrX.tr {m : Nat} {fs cs : List Nat} {g g1 g2 : GH} (h : FrX m fs cs g g1) (k : FrX m fs cs g1 g2) : FrX m fs cs g g2 := ⟨h.1.tr k.1, fun f n => (k.2.1 f n).trans (h.2.1 f n), fun c n => (k.2.2 c n).trans (h.2.2 c n)⟩
theorem FrX.up {m : Nat} {fs cs fs' cs' : List Nat} {g g' : GH} (h : FrX m fs cs g g') (k1 : ∀ f ∈ fs, f ∈ fs') (k2 : ∀ c ∈ cs, c ∈ cs') : FrX m fs' cs' g g' := ⟨h.1, fun f n => h.2.1 f (fun q => n (k1 f q)), fun c n => h.2.2 c (fun q => n (k2 c q))⟩
theorem FrX.sI {m : Nat} {fs cs : List Nat} {g : GH} {f : Nat} {v : Int32} (hf : f ∈ fs) : FrX m fs cs g (sI g f m v) := ⟨FrM.sI, fun f' h => by rw [Gi_sI, if_neg (fun q => h (by rw [q.1]; exact hf))], fun _ _ => rfl⟩
theorem FrX.sA {m : Nat} {fs cs : List Nat} {g : GH} {c i : Nat} {v : Int32} (hc : c ∈ cs) : FrX m fs cs g (sA g c m i v) := ⟨FrM.sA, fun _ _ => rfl, fun c' h => by funext j; rw [Ia_sA, if_neg (fun q => h (by rw [q.1]; exact hc))]⟩
theorem RefI.x {m : Nat} {ma : Nat → Nat} {g g' : GH} {s : ST} {fs cs : List Nat} (h : RefI m ma g s) (k : FrX m fs cs g g') (hd : (mPF.all (fun f => !fs.contains f) && mPA.all (fun c => !cs.contains c)) = true) : RefI m ma g' s := by
  rw [Bool.and_eq_true, List.all_eq_true, List.all_eq_true] at hd
  have hF : ∀ f ∈ mPF, Gi g' f m = Gi g f m := fun f hf => k.2.1 f (by have := hd.1 f hf; simpa using this)
  have hA : ∀ c ∈ mPA, Ia g' c m = Ia g c m := fun c hc => k.2.2 c (by have := hd.2 c hc; simpa using this)
  have f1536 := hF 1536 (by decide)
  have f1548 := hF 1548 (by decide)
  have f1615 := hF 1615 (by decide)
  have f1623 := hF 1623 (by decide)
  have f1537 := hF 1537 (by decide)
  have f1538 := hF 1538 (by decide)
  have f1539 := hF 1539 (by decide)
  have f1540 := hF 1540 (by decide)
  have f1541 := hF 1541 (by decide)
  have f1542 := hF 1542 (by decide)
  have f1543 := hF 1543 (by decide)
  have f1544 := hF 1544 (by decide)
  have f1546 := hF 1546 (by decide)
  have f1547 := hF 1547 (by decide)
  have f1588 := hF 1588 (by decide)
  have f1545 := hF 1545 (by decide)
  have c1549 := hA 1549 (by decide)
  have c1550 := hA 1550 (by decide)
  have c1551 := hA 1551 (by decide)
  have c1552 := hA 1552 (by decide)
  have c1553 := hA 1553 (by decide)
  have c1554 := hA 1554 (by decide)
  have c1555 := hA 1555 (by decide)
  have c1556 := hA 1556 (by decide)
  have c1557 := hA 1557 (by decide)
  have c1558 := hA 1558 (by decide)
  have c1559 := hA 1559 (by decide)
  have c1560 := hA 1560 (by decide)
  have c1561 := hA 1561 (by decide)
  have c1562 := hA 1562 (by decide)
  have c1563 := hA 1563 (by decide)
  have c1564 := hA 1564 (by decide)
  have c1565 := hA 1565 (by decide)
  have c1566 := hA 1566 (by decide)
  have c1567 := hA 1567 (by decide)
  have c1568 := hA 1568 (by decide)
  have c1571 := hA 1571 (by decide)
  have c1572 := hA 1572 (by decide)
  have c1573 := hA 1573 (by decide)
  have c1574 := hA 1574 (by decide)
  have c1575 := hA 1575 (by decide)
  have c1576 := hA 1576 (by decide)
  have c1577 := hA 1577 (by decide)
  have c1578 := hA 1578 (by decide)
  have c1579 := hA 1579 (by decide)
  have c1580 := hA 1580 (by decide)
  have c1610 := hA 1610 (by decide)
  have c1611 := hA 1611 (by decide)
  have c1612 := hA 1612 (by decide)
  have c1629 := hA 1629 (by decide)
  have c1630 := hA 1630 (by decide)
  have c1581 := hA 1581 (by decide)
  have c1584 := hA 1584 (by decide)
  have c1585 := hA 1585 (by decide)
  have c1586 := hA 1586 (by decide)
  have c1587 := hA 1587 (by decide)
  have c1582 := hA 1582 (by decide)
  have c1628 := hA 1628 (by decide)
  have c1617 := hA 1617 (by decide)
  have c1618 := hA 1618 (by decide)
  have c1619 := hA 1619 (by decide)
  have c1616 := hA 1616 (by decide)
  have c1626 := hA 1626 (by decide)
  refine ⟨k.1.s h.1, ?_, ?_, ?_, ?_, ?_, ?_, ?_, ?_, ?_, ?_, ?_, ?_, ?_, ?_, ?_, ?_, ?_, ?_, ?_, ?_⟩
  · rw [f1536]; exact h.now
  · rw [f1548]; exact h.siz
  · rw [f1615]; exact h.prs
  · rw [f1623]; exact h.stp
  · unfold R_vot; rw [f1537, c1549, c1550, c1551]; exact h.vot
  · unfold R_mov; rw [f1538, c1552, c1553, c1554, c1555]; exact h.mov
  · unfold R_env; rw [f1539, c1556, c1557, c1558, c1559]; exact h.env
  · unfold R_evt; rw [f1540, c1560, c1561, c1562, c1563, c1564]; exact h.evt
  · unfold R_emp; rw [f1541, c1565, c1566, c1567, c1568]; exact h.emp
  · unfold R_rea; rw [f1542, c1571, c1572, c1573]; exact h.rea
  · unfold R_tel; rw [f1543, c1574, c1575, c1576, c1577]; exact h.tel
  · unfold R_boo; rw [f1544, c1578, c1579, c1580]; exact h.boo
  · unfold R_wav; rw [f1546, c1610, c1611, c1612]; exact h.wav
  · unfold R_hea; rw [f1547, c1629, c1630]; exact h.hea
  · unfold R_tap; rw [f1588, c1581]; exact h.tap
  · unfold R_law; rw [f1545, c1584, c1585, c1586, c1587, c1582]; exact h.law
  · unfold R_hof; rw [c1628]; exact h.hof
  · unfold R_box; rw [c1617, c1618, c1619]; exact h.box
  · unfold R_roa; rw [c1616]; exact h.roa
  · unfold R_las; rw [c1626]; exact h.las
