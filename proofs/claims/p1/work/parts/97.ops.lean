/-! ALL CALLS -/
theorem dt_ops : ∀ pc ∈ dt_sw, fineL 8 dt_B0 (dt_C pc) := by
  intro pc h
  unfold dt_sw at h
  rcases List.mem_cons.mp h with e | h
  · rw [e]
    exact fi_0
  rcases List.mem_cons.mp h with e | h
  · rw [e]
    exact fi_1
  rcases List.mem_cons.mp h with e | h
  · rw [e]
    exact fi_2
  rcases List.mem_cons.mp h with e | h
  · rw [e]
    exact fi_3
  rcases List.mem_cons.mp h with e | h
  · rw [e]
    exact fi_4
  rcases List.mem_cons.mp h with e | h
  · rw [e]
    exact fi_5
  rcases List.mem_cons.mp h with e | h
  · rw [e]
    exact fi_6
  rcases List.mem_cons.mp h with e | h
  · rw [e]
    exact fi_7
  rcases List.mem_cons.mp h with e | h
  · rw [e]
    exact fi_8
  rcases List.mem_cons.mp h with e | h
  · rw [e]
    exact fi_9
  rcases List.mem_cons.mp h with e | h
  · rw [e]
    exact fi_10
  rcases List.mem_cons.mp h with e | h
  · rw [e]
    exact fi_11
  rcases List.mem_cons.mp h with e | h
  · rw [e]
    exact fi_12
  rcases List.mem_cons.mp h with e | h
  · rw [e]
    exact fi_13
  rcases List.mem_cons.mp h with e | h
  · rw [e]
    exact fi_14
  rcases List.mem_cons.mp h with e | h
  · rw [e]
    exact fi_15
  rcases List.mem_cons.mp h with e | h
  · rw [e]
    exact fi_16
  rcases List.mem_cons.mp h with e | h
  · rw [e]
    exact fi_17
  rcases List.mem_cons.mp h with e | h
  · rw [e]
    exact fi_18
  rcases List.mem_cons.mp h with e | h
  · rw [e]
    exact fi_19
  rcases List.mem_cons.mp h with e | h
  · rw [e]
    exact fi_20
  rcases List.mem_cons.mp h with e | h
  · rw [e]
    exact fi_21
  rcases List.mem_cons.mp h with e | h
  · rw [e]
    exact fi_22
  rcases List.mem_cons.mp h with e | h
  · rw [e]
    exact fi_23
  rcases List.mem_cons.mp h with e | h
  · rw [e]
    exact fi_24
  rcases List.mem_cons.mp h with e | h
  · rw [e]
    exact fi_25
  rcases List.mem_cons.mp h with e | h
  · rw [e]
    exact fi_26
  rcases List.mem_cons.mp h with e | h
  · rw [e]
    exact fi_27
  rcases List.mem_cons.mp h with e | h
  · rw [e]
    exact fi_28
  rcases List.mem_cons.mp h with e | h
  · rw [e]
    exact fi_29
  rcases List.mem_cons.mp h with e | h
  · rw [e]
    exact fi_30
  rcases List.mem_cons.mp h with e | h
  · rw [e]
    exact fi_31
  rcases List.mem_cons.mp h with e | h
  · rw [e]
    exact fi_32
  rcases List.mem_cons.mp h with e | h
  · rw [e]
    exact fi_33
  rcases List.mem_cons.mp h with e | h
  · rw [e]
    exact fi_34
  rcases List.mem_cons.mp h with e | h
  · rw [e]
    exact fi_35
  rcases List.mem_cons.mp h with e | h
  · rw [e]
    exact fi_36
  rcases List.mem_cons.mp h with e | h
  · rw [e]
    exact fi_37
  rcases List.mem_cons.mp h with e | h
  · rw [e]
    exact fi_38
  rcases List.mem_cons.mp h with e | h
  · rw [e]
    exact fi_39
  rcases List.mem_cons.mp h with e | h
  · rw [e]
    exact fi_40
  rcases List.mem_cons.mp h with e | h
  · rw [e]
    exact fi_41
  rcases List.mem_cons.mp h with e | h
  · rw [e]
    exact fi_42
  rcases List.mem_cons.mp h with e | h
  · rw [e]
    exact fi_43
  rcases List.mem_cons.mp h with e | h
  · rw [e]
    exact fi_44
  rcases List.mem_cons.mp h with e | h
  · rw [e]
    exact fi_45
  rcases List.mem_cons.mp h with e | h
  · rw [e]
    exact fi_46
  rcases List.mem_cons.mp h with e | h
  · rw [e]
    exact fi_47
  rcases List.mem_cons.mp h with e | h
  · rw [e]
    exact fi_48
  rcases List.mem_cons.mp h with e | h
  · rw [e]
    exact fi_49
  exact absurd h List.not_mem_nil
