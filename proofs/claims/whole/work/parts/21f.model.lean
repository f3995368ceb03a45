theorem WMd_set {σ : zG} {β : Bt} (h : WMd σ β) {j k : Nat} (hj : j ≤ 1) (hk : k < 3) (v : Int32) : WMd (zup σ (5 + k) j v) (withM β (nI j) k v) := by
  obtain ⟨hK, ⟨h5, h6, h7⟩, ⟨i5, i6, i7⟩, hq, hd⟩ := h
  have hK' : WK (zup σ (5 + k) j v) β.1.1 β.1.2.1 β.1.2.2.1 β.1.2.2.2 := hK.keep (by rw [zup_ne (by omega)]) (fun a _ _ => zup_ne (by omega))
  have hq' : zup σ (5 + k) j v 0 8 = β.2.2.2.1 := by rw [zup_ne (by omega)]; exact hq
  have hd' : zup σ (5 + k) j v 0 9 = β.2.2.2.2 := by rw [zup_ne (by omega)]; exact hd
  rcases (show j = 0 ∨ j = 1 by omega) with rfl | rfl
  · rw [withM, if_neg (by decide)]
    rcases (show k = 0 ∨ k = 1 ∨ k = 2 by omega) with rfl | rfl | rfl
    · exact ⟨hK', ⟨by rw [zup_self, pk_us]; rfl, h6, h7⟩, ⟨by rw [zup_self, pk_un (by omega)]; exact i5, i6, i7⟩, hq', hd'⟩
    · exact ⟨hK', ⟨h5, by rw [zup_self, pk_us]; rfl, h7⟩, ⟨i5, by rw [zup_self, pk_un (by omega)]; exact i6, i7⟩, hq', hd'⟩
    · exact ⟨hK', ⟨h5, h6, by rw [zup_self, pk_us]; rfl⟩, ⟨i5, i6, by rw [zup_self, pk_un (by omega)]; exact i7⟩, hq', hd'⟩
  · rw [withM, if_pos (by decide)]
    rcases (show k = 0 ∨ k = 1 ∨ k = 2 by omega) with rfl | rfl | rfl
    · exact ⟨hK', ⟨by rw [zup_self, pk_un (by omega)]; exact h5, h6, h7⟩, ⟨by rw [zup_self, pk_us]; rfl, i6, i7⟩, hq', hd'⟩
    · exact ⟨hK', ⟨h5, by rw [zup_self, pk_un (by omega)]; exact h6, h7⟩, ⟨i5, by rw [zup_self, pk_us]; rfl, i7⟩, hq', hd'⟩
    · exact ⟨hK', ⟨h5, h6, by rw [zup_self, pk_un (by omega)]; exact h7⟩, ⟨i5, i6, by rw [zup_self, pk_us]; rfl⟩, hq', hd'⟩
