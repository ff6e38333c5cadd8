theorem sx_0 {sk : (Nat → Nat) × (Nat → Nat)} {A : Nat → Prop} {U : State} {H : Heap} (h : Sx sk A U H) : vk_R RX0 41 "book sky buyer watch " (sk.1 0) U := h.2.2.2.1 0 (RX0, 41, "book sky buyer watch ") rfl
theorem sx_1 {sk : (Nat → Nat) × (Nat → Nat)} {A : Nat → Prop} {U : State} {H : Heap} (h : Sx sk A U H) : vk_R RX7 31 "buy" (sk.1 1) U := h.2.2.2.1 1 (RX7, 31, "buy") rfl
theorem sx_2 {sk : (Nat → Nat) × (Nat → Nat)} {A : Nat → Prop} {U : State} {H : Heap} (h : Sx sk A U H) : vk_R RX7 111 "buyer temper grains waits still next shelf bought met since sold clock day " (sk.1 2) U := h.2.2.2.1 2 (RX7, 111, "buyer temper grains waits still next shelf bought met since sold clock day ") rfl
theorem sx_3 {sk : (Nat → Nat) × (Nat → Nat)} {A : Nat → Prop} {U : State} {H : Heap} (h : Sx sk A U H) : vk_R RX7 48 "if" (sk.1 3) U := h.2.2.2.1 3 (RX7, 48, "if") rfl
theorem sx_4 {sk : (Nat → Nat) × (Nat → Nat)} {A : Nat → Prop} {U : State} {H : Heap} (h : Sx sk A U H) : vk_R RX7 84 "not" (sk.1 4) U := h.2.2.2.1 4 (RX7, 84, "not") rfl
theorem sx_5 {sk : (Nat → Nat) × (Nat → Nat)} {A : Nat → Prop} {U : State} {H : Heap} (h : Sx sk A U H) : vk_R RX7 80 "and" (sk.1 5) U := h.2.2.2.1 5 (RX7, 80, "and") rfl
theorem sx_6 {sk : (Nat → Nat) × (Nat → Nat)} {A : Nat → Prop} {U : State} {H : Heap} (h : Sx sk A U H) : vk_R RX7 82 "or" (sk.1 6) U := h.2.2.2.1 6 (RX7, 82, "or") rfl
