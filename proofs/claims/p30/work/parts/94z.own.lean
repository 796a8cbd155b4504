/-! THE LAYOUT OF THE CLASS -/
def Lay (g : hf_G) : Prop := (Hx g ∧ Al g ∧ Pu g ∧ Jo g ∧ Un g ∧ Sk g) ∧ hf_n g < 1000000 ∧ hf_k g 1000002 = (6, 16)
section
variable {g : hf_G}
theorem lay_n (h : Lay g) : hf_n g < 1000000 := h.2.1
theorem lay_hx (h : Lay g) : Hx g := h.1.1
theorem lay_al (h : Lay g) : Al g := h.1.2.1
theorem lay_pu (h : Lay g) : Pu g := h.1.2.2.1
theorem lay_jo (h : Lay g) : Jo g := h.1.2.2.2.1
theorem lay_un (h : Lay g) : Un g := h.1.2.2.2.2.1
theorem lay_sk (h : Lay g) : Sk g := h.1.2.2.2.2.2
end
