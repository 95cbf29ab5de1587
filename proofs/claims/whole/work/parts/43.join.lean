-- ===== class and reference stand for the same state =====
def Jn (h : Hp) : Prop := ∃ s, JC h s ∧ JM h s
theorem st_write : ∀ (a1 : Int32) (h : Hp), Jn h → ∃ r h1 h2, F_X11_write a1 h = some (r, h1) ∧ F_X12_write a1 h1 = some (r, h2) ∧ Jn h2 := by
  intro a1 h ⟨s, qc, qm⟩
  obtain ⟨z1, l1, u1, rfl⟩ := iI_of a1
  obtain ⟨h1, e1, qc1⟩ := C_write qc ⟨l1, u1⟩
  have f1 := fr_X11_write _ _ _ _ e1
  have qm1 : JM h1 s := qm.cls f1 (by decide) (by decide)
  obtain ⟨h2, e2, qm2⟩ := M_write qm1 ⟨l1, u1⟩
  have f2 := fr_X12_write _ _ _ _ e2
  exact ⟨_, h1, h2, e1, e2, _, qc1.ref f2 (by decide) (by decide), qm2⟩
theorem st_erase : ∀ (h : Hp), Jn h → ∃ r h1 h2, F_X11_erase  h = some (r, h1) ∧ F_X12_erase  h1 = some (r, h2) ∧ Jn h2 := by
  intro  h ⟨s, qc, qm⟩
  obtain ⟨h1, e1, qc1⟩ := C_erase qc 
  have f1 := fr_X11_erase _ _ _ e1
  have qm1 : JM h1 s := qm.cls f1 (by decide) (by decide)
  obtain ⟨h2, e2, qm2⟩ := M_erase qm1 
  have f2 := fr_X12_erase _ _ _ e2
  exact ⟨_, h1, h2, e1, e2, _, qc1.ref f2 (by decide) (by decide), qm2⟩
theorem st_fault : ∀ (h : Hp), Jn h → ∃ r h1 h2, F_X11_fault  h = some (r, h1) ∧ F_X12_fault  h1 = some (r, h2) ∧ Jn h2 := by
  intro  h ⟨s, qc, qm⟩
  obtain ⟨h1, e1, qc1⟩ := C_fault qc 
  have f1 := fr_X11_fault _ _ _ e1
  have qm1 : JM h1 s := qm.cls f1 (by decide) (by decide)
  obtain ⟨h2, e2, qm2⟩ := M_fault qm1 
  have f2 := fr_X12_fault _ _ _ e2
  exact ⟨_, h1, h2, e1, e2, _, qc1.ref f2 (by decide) (by decide), qm2⟩
theorem st_album : ∀ (h : Hp), Jn h → ∃ r h1 h2, F_X11_album  h = some (r, h1) ∧ F_X12_album  h1 = some (r, h2) ∧ Jn h2 := by
  intro  h ⟨s, qc, qm⟩
  obtain ⟨h1, e1, qc1⟩ := C_album qc 
  have f1 := fr_X11_album _ _ _ e1
  have qm1 : JM h1 s := qm.cls f1 (by decide) (by decide)
  obtain ⟨h2, e2, qm2⟩ := M_album qm1 
  have f2 := fr_X12_album _ _ _ e2
  exact ⟨_, h1, h2, e1, e2, _, qc1.ref f2 (by decide) (by decide), qm2⟩
theorem st_find : ∀ (h : Hp), Jn h → ∃ r h1 h2, F_X11_find  h = some (r, h1) ∧ F_X12_find  h1 = some (r, h2) ∧ Jn h2 := by
  intro  h ⟨s, qc, qm⟩
  obtain ⟨h1, e1, qc1⟩ := C_find qc 
  have f1 := fr_X11_find _ _ _ e1
  have qm1 : JM h1 s := qm.cls f1 (by decide) (by decide)
  obtain ⟨h2, e2, qm2⟩ := M_find qm1 
  have f2 := fr_X12_find _ _ _ e2
  exact ⟨_, h1, h2, e1, e2, _, qc1.ref f2 (by decide) (by decide), qm2⟩
theorem st_picture : ∀ (a1 a2 : Int32) (h : Hp), Jn h → ∃ r h1 h2, F_X11_picture a1 a2 h = some (r, h1) ∧ F_X12_picture a1 a2 h1 = some (r, h2) ∧ Jn h2 := by
  intro a1 a2 h ⟨s, qc, qm⟩
  obtain ⟨z1, l1, u1, rfl⟩ := iI_of a1
  obtain ⟨z2, l2, u2, rfl⟩ := iI_of a2
  obtain ⟨h1, e1, qc1⟩ := C_picture qc ⟨l1, u1⟩ ⟨l2, u2⟩
  have f1 := fr_X11_picture _ _ _ _ _ e1
  have qm1 : JM h1 s := qm.cls f1 (by decide) (by decide)
  obtain ⟨h2, e2, qm2⟩ := M_picture qm1 ⟨l1, u1⟩ ⟨l2, u2⟩
  have f2 := fr_X12_picture _ _ _ _ _ e2
  exact ⟨_, h1, h2, e1, e2, _, qc1.ref f2 (by decide) (by decide), qm2⟩
theorem st_thing : ∀ (a1 a2 : Int32) (h : Hp), Jn h → ∃ r h1 h2, F_X11_thing a1 a2 h = some (r, h1) ∧ F_X12_thing a1 a2 h1 = some (r, h2) ∧ Jn h2 := by
  intro a1 a2 h ⟨s, qc, qm⟩
  obtain ⟨z1, l1, u1, rfl⟩ := iI_of a1
  obtain ⟨z2, l2, u2, rfl⟩ := iI_of a2
  obtain ⟨h1, e1, qc1⟩ := C_thing qc ⟨l1, u1⟩ ⟨l2, u2⟩
  have f1 := fr_X11_thing _ _ _ _ _ e1
  have qm1 : JM h1 s := qm.cls f1 (by decide) (by decide)
  obtain ⟨h2, e2, qm2⟩ := M_thing qm1 ⟨l1, u1⟩ ⟨l2, u2⟩
  have f2 := fr_X12_thing _ _ _ _ _ e2
  exact ⟨_, h1, h2, e1, e2, _, qc1.ref f2 (by decide) (by decide), qm2⟩
theorem st_piece : ∀ (a1 a2 a3 : Int32) (h : Hp), Jn h → ∃ r h1 h2, F_X11_piece a1 a2 a3 h = some (r, h1) ∧ F_X12_piece a1 a2 a3 h1 = some (r, h2) ∧ Jn h2 := by
  intro a1 a2 a3 h ⟨s, qc, qm⟩
  obtain ⟨z1, l1, u1, rfl⟩ := iI_of a1
  obtain ⟨z2, l2, u2, rfl⟩ := iI_of a2
  obtain ⟨z3, l3, u3, rfl⟩ := iI_of a3
  obtain ⟨h1, e1, qc1⟩ := C_piece qc ⟨l1, u1⟩ ⟨l2, u2⟩ ⟨l3, u3⟩
  have f1 := fr_X11_piece _ _ _ _ _ _ e1
  have qm1 : JM h1 s := qm.cls f1 (by decide) (by decide)
  obtain ⟨h2, e2, qm2⟩ := M_piece qm1 ⟨l1, u1⟩ ⟨l2, u2⟩ ⟨l3, u3⟩
  have f2 := fr_X12_piece _ _ _ _ _ _ e2
  exact ⟨_, h1, h2, e1, e2, _, qc1.ref f2 (by decide) (by decide), qm2⟩
theorem st_told : ∀ (a1 a2 : Int32) (h : Hp), Jn h → ∃ r h1 h2, F_X11_told a1 a2 h = some (r, h1) ∧ F_X12_told a1 a2 h1 = some (r, h2) ∧ Jn h2 := by
  intro a1 a2 h ⟨s, qc, qm⟩
  obtain ⟨z1, l1, u1, rfl⟩ := iI_of a1
  obtain ⟨z2, l2, u2, rfl⟩ := iI_of a2
  obtain ⟨h1, e1, qc1⟩ := C_told qc ⟨l1, u1⟩ ⟨l2, u2⟩
  have f1 := fr_X11_told _ _ _ _ _ e1
  have qm1 : JM h1 s := qm.cls f1 (by decide) (by decide)
  obtain ⟨h2, e2, qm2⟩ := M_told qm1 ⟨l1, u1⟩ ⟨l2, u2⟩
  have f2 := fr_X12_told _ _ _ _ _ e2
  exact ⟨_, h1, h2, e1, e2, _, qc1.ref f2 (by decide) (by decide), qm2⟩
theorem st_sun : ∀ (a1 a2 : Int32) (h : Hp), Jn h → ∃ r h1 h2, F_X11_sun a1 a2 h = some (r, h1) ∧ F_X12_sun a1 a2 h1 = some (r, h2) ∧ Jn h2 := by
  intro a1 a2 h ⟨s, qc, qm⟩
  obtain ⟨z1, l1, u1, rfl⟩ := iI_of a1
  obtain ⟨z2, l2, u2, rfl⟩ := iI_of a2
  obtain ⟨h1, e1, qc1⟩ := C_sun qc ⟨l1, u1⟩ ⟨l2, u2⟩
  have f1 := fr_X11_sun _ _ _ _ _ e1
  have qm1 : JM h1 s := qm.cls f1 (by decide) (by decide)
  obtain ⟨h2, e2, qm2⟩ := M_sun qm1 ⟨l1, u1⟩ ⟨l2, u2⟩
  have f2 := fr_X12_sun _ _ _ _ _ e2
  exact ⟨_, h1, h2, e1, e2, _, qc1.ref f2 (by decide) (by decide), qm2⟩
theorem st_point : ∀ (a1 a2 a3 : Int32) (h : Hp), Jn h → ∃ r h1 h2, F_X11_point a1 a2 a3 h = some (r, h1) ∧ F_X12_point a1 a2 a3 h1 = some (r, h2) ∧ Jn h2 := by
  intro a1 a2 a3 h ⟨s, qc, qm⟩
  obtain ⟨z1, l1, u1, rfl⟩ := iI_of a1
  obtain ⟨z2, l2, u2, rfl⟩ := iI_of a2
  obtain ⟨z3, l3, u3, rfl⟩ := iI_of a3
  obtain ⟨h1, e1, qc1⟩ := C_point qc ⟨l1, u1⟩ ⟨l2, u2⟩ ⟨l3, u3⟩
  have f1 := fr_X11_point _ _ _ _ _ _ e1
  have qm1 : JM h1 s := qm.cls f1 (by decide) (by decide)
  obtain ⟨h2, e2, qm2⟩ := M_point qm1 ⟨l1, u1⟩ ⟨l2, u2⟩ ⟨l3, u3⟩
  have f2 := fr_X12_point _ _ _ _ _ _ e2
  exact ⟨_, h1, h2, e1, e2, _, qc1.ref f2 (by decide) (by decide), qm2⟩
theorem st_length : ∀ (a1 a2 a3 : Int32) (h : Hp), Jn h → ∃ r h1 h2, F_X11_length a1 a2 a3 h = some (r, h1) ∧ F_X12_length a1 a2 a3 h1 = some (r, h2) ∧ Jn h2 := by
  intro a1 a2 a3 h ⟨s, qc, qm⟩
  obtain ⟨z1, l1, u1, rfl⟩ := iI_of a1
  obtain ⟨z2, l2, u2, rfl⟩ := iI_of a2
  obtain ⟨z3, l3, u3, rfl⟩ := iI_of a3
  obtain ⟨h1, e1, qc1⟩ := C_length qc ⟨l1, u1⟩ ⟨l2, u2⟩ ⟨l3, u3⟩
  have f1 := fr_X11_length _ _ _ _ _ _ e1
  have qm1 : JM h1 s := qm.cls f1 (by decide) (by decide)
  obtain ⟨h2, e2, qm2⟩ := M_length qm1 ⟨l1, u1⟩ ⟨l2, u2⟩ ⟨l3, u3⟩
  have f2 := fr_X12_length _ _ _ _ _ _ e2
  exact ⟨_, h1, h2, e1, e2, _, qc1.ref f2 (by decide) (by decide), qm2⟩
theorem st_see : ∀ (a1 a2 a3 : Int32) (h : Hp), Jn h → ∃ r h1 h2, F_X11_see a1 a2 a3 h = some (r, h1) ∧ F_X12_see a1 a2 a3 h1 = some (r, h2) ∧ Jn h2 := by
  intro a1 a2 a3 h ⟨s, qc, qm⟩
  obtain ⟨z1, l1, u1, rfl⟩ := iI_of a1
  obtain ⟨z2, l2, u2, rfl⟩ := iI_of a2
  obtain ⟨z3, l3, u3, rfl⟩ := iI_of a3
  obtain ⟨h1, e1, qc1⟩ := C_see qc ⟨l1, u1⟩ ⟨l2, u2⟩ ⟨l3, u3⟩
  have f1 := fr_X11_see _ _ _ _ _ _ e1
  have qm1 : JM h1 s := qm.cls f1 (by decide) (by decide)
  obtain ⟨h2, e2, qm2⟩ := M_see qm1 ⟨l1, u1⟩ ⟨l2, u2⟩ ⟨l3, u3⟩
  have f2 := fr_X12_see _ _ _ _ _ _ e2
  exact ⟨_, h1, h2, e1, e2, _, qc1.ref f2 (by decide) (by decide), qm2⟩
theorem st_strike : ∀ (a1 a2 : Int32) (h : Hp), Jn h → ∃ r h1 h2, F_X11_strike a1 a2 h = some (r, h1) ∧ F_X12_strike a1 a2 h1 = some (r, h2) ∧ Jn h2 := by
  intro a1 a2 h ⟨s, qc, qm⟩
  obtain ⟨z1, l1, u1, rfl⟩ := iI_of a1
  obtain ⟨z2, l2, u2, rfl⟩ := iI_of a2
  obtain ⟨h1, e1, qc1⟩ := C_strike qc ⟨l1, u1⟩ ⟨l2, u2⟩
  have f1 := fr_X11_strike _ _ _ _ _ e1
  have qm1 : JM h1 s := qm.cls f1 (by decide) (by decide)
  obtain ⟨h2, e2, qm2⟩ := M_strike qm1 ⟨l1, u1⟩ ⟨l2, u2⟩
  have f2 := fr_X12_strike _ _ _ _ _ e2
  exact ⟨_, h1, h2, e1, e2, _, qc1.ref f2 (by decide) (by decide), qm2⟩
theorem st_undo : ∀ (h : Hp), Jn h → ∃ r h1 h2, F_X11_undo  h = some (r, h1) ∧ F_X12_undo  h1 = some (r, h2) ∧ Jn h2 := by
  intro  h ⟨s, qc, qm⟩
  obtain ⟨h1, e1, qc1⟩ := C_undo qc 
  have f1 := fr_X11_undo _ _ _ e1
  have qm1 : JM h1 s := qm.cls f1 (by decide) (by decide)
  obtain ⟨h2, e2, qm2⟩ := M_undo qm1 
  have f2 := fr_X12_undo _ _ _ e2
  exact ⟨_, h1, h2, e1, e2, _, qc1.ref f2 (by decide) (by decide), qm2⟩
theorem st_keep : ∀ (a1 : Int32) (h : Hp), Jn h → ∃ r h1 h2, F_X11_keep a1 h = some (r, h1) ∧ F_X12_keep a1 h1 = some (r, h2) ∧ Jn h2 := by
  intro a1 h ⟨s, qc, qm⟩
  obtain ⟨z1, l1, u1, rfl⟩ := iI_of a1
  obtain ⟨h1, e1, qc1⟩ := C_keep qc ⟨l1, u1⟩
  have f1 := fr_X11_keep _ _ _ _ e1
  have qm1 : JM h1 s := qm.cls f1 (by decide) (by decide)
  obtain ⟨h2, e2, qm2⟩ := M_keep qm1 ⟨l1, u1⟩
  have f2 := fr_X12_keep _ _ _ _ e2
  exact ⟨_, h1, h2, e1, e2, _, qc1.ref f2 (by decide) (by decide), qm2⟩
theorem st_back : ∀ (a1 : Int32) (h : Hp), Jn h → ∃ r h1 h2, F_X11_back a1 h = some (r, h1) ∧ F_X12_back a1 h1 = some (r, h2) ∧ Jn h2 := by
  intro a1 h ⟨s, qc, qm⟩
  obtain ⟨z1, l1, u1, rfl⟩ := iI_of a1
  obtain ⟨h1, e1, qc1⟩ := C_back qc ⟨l1, u1⟩
  have f1 := fr_X11_back _ _ _ _ e1
  have qm1 : JM h1 s := qm.cls f1 (by decide) (by decide)
  obtain ⟨h2, e2, qm2⟩ := M_back qm1 ⟨l1, u1⟩
  have f2 := fr_X12_back _ _ _ _ e2
  exact ⟨_, h1, h2, e1, e2, _, qc1.ref f2 (by decide) (by decide), qm2⟩
theorem st_before : ∀ (a1 a2 : Int32) (h : Hp), Jn h → ∃ r h1 h2, F_X11_before a1 a2 h = some (r, h1) ∧ F_X12_before a1 a2 h1 = some (r, h2) ∧ Jn h2 := by
  intro a1 a2 h ⟨s, qc, qm⟩
  obtain ⟨z1, l1, u1, rfl⟩ := iI_of a1
  obtain ⟨z2, l2, u2, rfl⟩ := iI_of a2
  obtain ⟨h1, e1, qc1⟩ := C_before qc ⟨l1, u1⟩ ⟨l2, u2⟩
  have f1 := fr_X11_before _ _ _ _ _ e1
  have qm1 : JM h1 s := qm.cls f1 (by decide) (by decide)
  obtain ⟨h2, e2, qm2⟩ := M_before qm1 ⟨l1, u1⟩ ⟨l2, u2⟩
  have f2 := fr_X12_before _ _ _ _ _ e2
  exact ⟨_, h1, h2, e1, e2, _, qc1.ref f2 (by decide) (by decide), qm2⟩
theorem st_orders : ∀ (h : Hp), Jn h → ∃ r h1 h2, F_X11_orders  h = some (r, h1) ∧ F_X12_orders  h1 = some (r, h2) ∧ Jn h2 := by
  intro  h ⟨s, qc, qm⟩
  obtain ⟨h1, e1, qc1⟩ := C_orders qc 
  have f1 := fr_X11_orders _ _ _ e1
  have qm1 : JM h1 s := qm.cls f1 (by decide) (by decide)
  obtain ⟨h2, e2, qm2⟩ := M_orders qm1 
  have f2 := fr_X12_orders _ _ _ e2
  exact ⟨_, h1, h2, e1, e2, _, qc1.ref f2 (by decide) (by decide), qm2⟩
theorem st_order : ∀ (a1 a2 : Int32) (h : Hp), Jn h → ∃ r h1 h2, F_X11_order a1 a2 h = some (r, h1) ∧ F_X12_order a1 a2 h1 = some (r, h2) ∧ Jn h2 := by
  intro a1 a2 h ⟨s, qc, qm⟩
  obtain ⟨z1, l1, u1, rfl⟩ := iI_of a1
  obtain ⟨z2, l2, u2, rfl⟩ := iI_of a2
  obtain ⟨h1, e1, qc1⟩ := C_order qc ⟨l1, u1⟩ ⟨l2, u2⟩
  have f1 := fr_X11_order _ _ _ _ _ e1
  have qm1 : JM h1 s := qm.cls f1 (by decide) (by decide)
  obtain ⟨h2, e2, qm2⟩ := M_order qm1 ⟨l1, u1⟩ ⟨l2, u2⟩
  have f2 := fr_X12_order _ _ _ _ _ e2
  exact ⟨_, h1, h2, e1, e2, _, qc1.ref f2 (by decide) (by decide), qm2⟩
theorem st_place : ∀ (a1 a2 : Int32) (h : Hp), Jn h → ∃ r h1 h2, F_X11_place a1 a2 h = some (r, h1) ∧ F_X12_place a1 a2 h1 = some (r, h2) ∧ Jn h2 := by
  intro a1 a2 h ⟨s, qc, qm⟩
  obtain ⟨z1, l1, u1, rfl⟩ := iI_of a1
  obtain ⟨z2, l2, u2, rfl⟩ := iI_of a2
  obtain ⟨h1, m, e1, qc1, hm⟩ := C_place qc ⟨l1, u1⟩ ⟨l2, u2⟩
  have f1 := fr_X11_place _ _ _ _ _ e1
  have qm1 : JM h1 s := qm.cls f1 (by decide) (by decide)
  obtain ⟨h2, e2, qm2⟩ := M_place qm1 ⟨l1, u1⟩ ⟨l2, u2⟩ (m := m) hm
  have f2 := fr_X12_place _ _ _ _ _ e2
  exact ⟨_, h1, h2, e1, e2, _, qc1.ref f2 (by decide) (by decide), qm2⟩
theorem st_often : ∀ (a1 a2 : Int32) (h : Hp), Jn h → ∃ r h1 h2, F_X11_often a1 a2 h = some (r, h1) ∧ F_X12_often a1 a2 h1 = some (r, h2) ∧ Jn h2 := by
  intro a1 a2 h ⟨s, qc, qm⟩
  obtain ⟨z1, l1, u1, rfl⟩ := iI_of a1
  obtain ⟨z2, l2, u2, rfl⟩ := iI_of a2
  obtain ⟨h1, e1, qc1⟩ := C_often qc ⟨l1, u1⟩ ⟨l2, u2⟩
  have f1 := fr_X11_often _ _ _ _ _ e1
  have qm1 : JM h1 s := qm.cls f1 (by decide) (by decide)
  obtain ⟨h2, e2, qm2⟩ := M_often qm1 ⟨l1, u1⟩ ⟨l2, u2⟩
  have f2 := fr_X12_often _ _ _ _ _ e2
  exact ⟨_, h1, h2, e1, e2, _, qc1.ref f2 (by decide) (by decide), qm2⟩
theorem st_left : ∀ (a1 a2 : Int32) (h : Hp), Jn h → ∃ r h1 h2, F_X11_left a1 a2 h = some (r, h1) ∧ F_X12_left a1 a2 h1 = some (r, h2) ∧ Jn h2 := by
  intro a1 a2 h ⟨s, qc, qm⟩
  obtain ⟨z1, l1, u1, rfl⟩ := iI_of a1
  obtain ⟨z2, l2, u2, rfl⟩ := iI_of a2
  obtain ⟨h1, m, e1, qc1, hm⟩ := C_left qc ⟨l1, u1⟩ ⟨l2, u2⟩
  have f1 := fr_X11_left _ _ _ _ _ e1
  have qm1 : JM h1 s := qm.cls f1 (by decide) (by decide)
  obtain ⟨h2, e2, qm2⟩ := M_left qm1 ⟨l1, u1⟩ ⟨l2, u2⟩ (m := m) hm
  have f2 := fr_X12_left _ _ _ _ _ e2
  exact ⟨_, h1, h2, e1, e2, _, qc1.ref f2 (by decide) (by decide), qm2⟩
theorem st_knot : ∀ (a1 : Int32) (h : Hp), Jn h → ∃ r h1 h2, F_X11_knot a1 h = some (r, h1) ∧ F_X12_knot a1 h1 = some (r, h2) ∧ Jn h2 := by
  intro a1 h ⟨s, qc, qm⟩
  obtain ⟨z1, l1, u1, rfl⟩ := iI_of a1
  obtain ⟨h1, z, e1, qc1, hm⟩ := C_knot qc ⟨l1, u1⟩
  have f1 := fr_X11_knot _ _ _ _ e1
  have qm1 : JM h1 s := qm.cls f1 (by decide) (by decide)
  obtain ⟨h2, e2, qm2⟩ := M_knot qm1 ⟨l1, u1⟩ hm
  have f2 := fr_X12_knot _ _ _ _ e2
  exact ⟨_, h1, h2, e1, e2, _, qc1.ref f2 (by decide) (by decide), qm2⟩
theorem st_loose : ∀ (a1 : Int32) (h : Hp), Jn h → ∃ r h1 h2, F_X11_loose a1 h = some (r, h1) ∧ F_X12_loose a1 h1 = some (r, h2) ∧ Jn h2 := by
  intro a1 h ⟨s, qc, qm⟩
  obtain ⟨z1, l1, u1, rfl⟩ := iI_of a1
  obtain ⟨h1, e1, qc1⟩ := C_loose qc ⟨l1, u1⟩
  have f1 := fr_X11_loose _ _ _ _ e1
  have qm1 : JM h1 s := qm.cls f1 (by decide) (by decide)
  obtain ⟨h2, e2, qm2⟩ := M_loose qm1 ⟨l1, u1⟩
  have f2 := fr_X12_loose _ _ _ _ e2
  exact ⟨_, h1, h2, e1, e2, _, qc1.ref f2 (by decide) (by decide), qm2⟩
theorem st_would : ∀ (a1 a2 a3 : Int32) (h : Hp), Jn h → ∃ r h1 h2, F_X11_would a1 a2 a3 h = some (r, h1) ∧ F_X12_would a1 a2 a3 h1 = some (r, h2) ∧ Jn h2 := by
  intro a1 a2 a3 h ⟨s, qc, qm⟩
  obtain ⟨z1, l1, u1, rfl⟩ := iI_of a1
  obtain ⟨z2, l2, u2, rfl⟩ := iI_of a2
  obtain ⟨z3, l3, u3, rfl⟩ := iI_of a3
  obtain ⟨h1, e1, qc1⟩ := C_would qc ⟨l1, u1⟩ ⟨l2, u2⟩ ⟨l3, u3⟩
  have f1 := fr_X11_would _ _ _ _ _ _ e1
  have qm1 : JM h1 s := qm.cls f1 (by decide) (by decide)
  obtain ⟨h2, e2, qm2⟩ := M_would qm1 ⟨l1, u1⟩ ⟨l2, u2⟩ ⟨l3, u3⟩
  have f2 := fr_X12_would _ _ _ _ _ _ e2
  exact ⟨_, h1, h2, e1, e2, _, qc1.ref f2 (by decide) (by decide), qm2⟩
theorem st_ask : ∀ (a1 : Int32) (h : Hp), Jn h → ∃ r h1 h2, F_X11_ask a1 h = some (r, h1) ∧ F_X12_ask a1 h1 = some (r, h2) ∧ Jn h2 := by
  intro a1 h ⟨s, qc, qm⟩
  obtain ⟨z1, l1, u1, rfl⟩ := iI_of a1
  obtain ⟨h1, e1, qc1⟩ := C_ask qc ⟨l1, u1⟩
  have f1 := fr_X11_ask _ _ _ _ e1
  have qm1 : JM h1 s := qm.cls f1 (by decide) (by decide)
  obtain ⟨h2, e2, qm2⟩ := M_ask qm1 ⟨l1, u1⟩
  have f2 := fr_X12_ask _ _ _ _ e2
  exact ⟨_, h1, h2, e1, e2, _, qc1.ref f2 (by decide) (by decide), qm2⟩
theorem st_strip : ∀ (a1 a2 : Int32) (h : Hp), Jn h → ∃ r h1 h2, F_X11_strip a1 a2 h = some (r, h1) ∧ F_X12_strip a1 a2 h1 = some (r, h2) ∧ Jn h2 := by
  intro a1 a2 h ⟨s, qc, qm⟩
  obtain ⟨z1, l1, u1, rfl⟩ := iI_of a1
  obtain ⟨z2, l2, u2, rfl⟩ := iI_of a2
  obtain ⟨h1, e1, qc1⟩ := C_strip qc ⟨l1, u1⟩ ⟨l2, u2⟩
  have f1 := fr_X11_strip _ _ _ _ _ e1
  have qm1 : JM h1 s := qm.cls f1 (by decide) (by decide)
  obtain ⟨h2, e2, qm2⟩ := M_strip qm1 ⟨l1, u1⟩ ⟨l2, u2⟩
  have f2 := fr_X12_strip _ _ _ _ _ e2
  exact ⟨_, h1, h2, e1, e2, _, qc1.ref f2 (by decide) (by decide), qm2⟩
theorem st_set : ∀ (a1 a2 a3 : Int32) (h : Hp), Jn h → ∃ r h1 h2, F_X11_set a1 a2 a3 h = some (r, h1) ∧ F_X12_set a1 a2 a3 h1 = some (r, h2) ∧ Jn h2 := by
  intro a1 a2 a3 h ⟨s, qc, qm⟩
  obtain ⟨z1, l1, u1, rfl⟩ := iI_of a1
  obtain ⟨z2, l2, u2, rfl⟩ := iI_of a2
  obtain ⟨z3, l3, u3, rfl⟩ := iI_of a3
  obtain ⟨h1, e1, qc1⟩ := C_set qc (v := z3) ⟨l1, u1⟩ ⟨l2, u2⟩
  have f1 := fr_X11_set _ _ _ _ _ _ e1
  have qm1 : JM h1 s := qm.cls f1 (by decide) (by decide)
  obtain ⟨h2, e2, qm2⟩ := M_set qm1 (v := z3) ⟨l1, u1⟩ ⟨l2, u2⟩
  have f2 := fr_X12_set _ _ _ _ _ _ e2
  exact ⟨_, h1, h2, e1, e2, _, qc1.ref f2 (by decide) (by decide), qm2⟩
theorem st_load : ∀ (a1 a2 a3 a4 : Int32) (h : Hp), Jn h → ∃ r h1 h2, F_X11_load a1 a2 a3 a4 h = some (r, h1) ∧ F_X12_load a1 a2 a3 a4 h1 = some (r, h2) ∧ Jn h2 := by
  intro a1 a2 a3 a4 h ⟨s, qc, qm⟩
  obtain ⟨z1, l1, u1, rfl⟩ := iI_of a1
  obtain ⟨z2, l2, u2, rfl⟩ := iI_of a2
  obtain ⟨z3, l3, u3, rfl⟩ := iI_of a3
  obtain ⟨z4, l4, u4, rfl⟩ := iI_of a4
  obtain ⟨h1, m, e1, qc1, hm⟩ := C_load qc ⟨l1, u1⟩ ⟨l2, u2⟩ ⟨l3, u3⟩ ⟨l4, u4⟩
  have f1 := fr_X11_load _ _ _ _ _ _ _ e1
  have qm1 : JM h1 s := qm.cls f1 (by decide) (by decide)
  obtain ⟨h2, e2, qm2⟩ := M_load qm1 ⟨l1, u1⟩ ⟨l2, u2⟩ ⟨l3, u3⟩ ⟨l4, u4⟩ (m := m) hm
  have f2 := fr_X12_load _ _ _ _ _ _ _ e2
  exact ⟨_, h1, h2, e1, e2, _, qc1.ref f2 (by decide) (by decide), qm2⟩
theorem st_work : ∀ (a1 a2 a3 a4 : Int32) (h : Hp), Jn h → ∃ r h1 h2, F_X11_work a1 a2 a3 a4 h = some (r, h1) ∧ F_X12_work a1 a2 a3 a4 h1 = some (r, h2) ∧ Jn h2 := by
  intro a1 a2 a3 a4 h ⟨s, qc, qm⟩
  obtain ⟨z1, l1, u1, rfl⟩ := iI_of a1
  obtain ⟨z2, l2, u2, rfl⟩ := iI_of a2
  obtain ⟨z3, l3, u3, rfl⟩ := iI_of a3
  obtain ⟨z4, l4, u4, rfl⟩ := iI_of a4
  obtain ⟨h1, e1, qc1⟩ := C_work qc ⟨l1, u1⟩ ⟨l2, u2⟩ ⟨l3, u3⟩ ⟨l4, u4⟩
  have f1 := fr_X11_work _ _ _ _ _ _ _ e1
  have qm1 : JM h1 s := qm.cls f1 (by decide) (by decide)
  obtain ⟨h2, e2, qm2⟩ := M_work qm1 ⟨l1, u1⟩ ⟨l2, u2⟩ ⟨l3, u3⟩ ⟨l4, u4⟩
  have f2 := fr_X12_work _ _ _ _ _ _ _ e2
  exact ⟨_, h1, h2, e1, e2, _, qc1.ref f2 (by decide) (by decide), qm2⟩
theorem st_bits : ∀ (a1 a2 : Int32) (h : Hp), Jn h → ∃ r h1 h2, F_X11_bits a1 a2 h = some (r, h1) ∧ F_X12_bits a1 a2 h1 = some (r, h2) ∧ Jn h2 := by
  intro a1 a2 h ⟨s, qc, qm⟩
  obtain ⟨z1, l1, u1, rfl⟩ := iI_of a1
  obtain ⟨z2, l2, u2, rfl⟩ := iI_of a2
  obtain ⟨h1, e1, qc1⟩ := C_bits qc ⟨l1, u1⟩ ⟨l2, u2⟩
  have f1 := fr_X11_bits _ _ _ _ _ e1
  have qm1 : JM h1 s := qm.cls f1 (by decide) (by decide)
  obtain ⟨h2, e2, qm2⟩ := M_bits qm1 ⟨l1, u1⟩ ⟨l2, u2⟩
  have f2 := fr_X12_bits _ _ _ _ _ e2
  exact ⟨_, h1, h2, e1, e2, _, qc1.ref f2 (by decide) (by decide), qm2⟩
theorem st_sum : ∀ (a1 : Int32) (h : Hp), Jn h → ∃ r h1 h2, F_X11_sum a1 h = some (r, h1) ∧ F_X12_sum a1 h1 = some (r, h2) ∧ Jn h2 := by
  intro a1 h ⟨s, qc, qm⟩
  obtain ⟨z1, l1, u1, rfl⟩ := iI_of a1
  obtain ⟨h1, e1, qc1⟩ := C_sum qc ⟨l1, u1⟩
  have f1 := fr_X11_sum _ _ _ _ e1
  have qm1 : JM h1 s := qm.cls f1 (by decide) (by decide)
  obtain ⟨h2, e2, qm2⟩ := M_sum qm1 ⟨l1, u1⟩
  have f2 := fr_X12_sum _ _ _ _ e2
  exact ⟨_, h1, h2, e1, e2, _, qc1.ref f2 (by decide) (by decide), qm2⟩
theorem st_drop : ∀ (a1 : Int32) (h : Hp), Jn h → ∃ r h1 h2, F_X11_drop a1 h = some (r, h1) ∧ F_X12_drop a1 h1 = some (r, h2) ∧ Jn h2 := by
  intro a1 h ⟨s, qc, qm⟩
  obtain ⟨z1, l1, u1, rfl⟩ := iI_of a1
  obtain ⟨h1, e1, qc1⟩ := C_drop qc ⟨l1, u1⟩
  have f1 := fr_X11_drop _ _ _ _ e1
  have qm1 : JM h1 s := qm.cls f1 (by decide) (by decide)
  obtain ⟨h2, e2, qm2⟩ := M_drop qm1 ⟨l1, u1⟩
  have f2 := fr_X12_drop _ _ _ _ e2
  exact ⟨_, h1, h2, e1, e2, _, qc1.ref f2 (by decide) (by decide), qm2⟩
theorem st_latest : ∀ (h : Hp), Jn h → ∃ r h1 h2, F_X11_latest  h = some (r, h1) ∧ F_X12_latest  h1 = some (r, h2) ∧ Jn h2 := by
  intro  h ⟨s, qc, qm⟩
  exact ⟨_, h, h, C_latest qc, M_latest qm, s, qc, qm⟩
theorem st_count : ∀ (a1 : Int32) (h : Hp), Jn h → ∃ r h1 h2, F_X11_count a1 h = some (r, h1) ∧ F_X12_count a1 h1 = some (r, h2) ∧ Jn h2 := by
  intro a1 h ⟨s, qc, qm⟩
  obtain ⟨z1, l1, u1, rfl⟩ := iI_of a1
  obtain ⟨h1, e1, qc1⟩ := C_count qc ⟨l1, u1⟩
  have f1 := fr_X11_count _ _ _ _ e1
  have qm1 : JM h1 s := qm.cls f1 (by decide) (by decide)
  obtain ⟨h2, e2, qm2⟩ := M_count qm1 ⟨l1, u1⟩
  have f2 := fr_X12_count _ _ _ _ e2
  exact ⟨_, h1, h2, e1, e2, _, qc1.ref f2 (by decide) (by decide), qm2⟩
theorem Jn_steps : StepsOk Jn := ⟨st_write, st_erase, st_fault, st_album, st_find, st_picture, st_thing, st_piece, st_told, st_sun, st_point, st_length, st_see, st_strike, st_undo, st_keep, st_back, st_before, st_orders, st_order, st_place, st_often, st_left, st_knot, st_loose, st_would, st_ask, st_strip, st_set, st_load, st_work, st_bits, st_sum, st_drop, st_latest, st_count⟩
