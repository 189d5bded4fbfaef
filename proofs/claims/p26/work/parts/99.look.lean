theorem zz_look : True := by
  have h1 := @a_catch
  have h2 := @a_throw
  have h3 := @a_callIN
  trivial
