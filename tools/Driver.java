import java.io.*; import java.lang.reflect.*; import java.util.*;
public final class Driver {
  public static void main(String[] a) throws Exception {
    BufferedReader in=new BufferedReader(new InputStreamReader(System.in,"ISO-8859-1"));
    PrintStream out=new PrintStream(new BufferedOutputStream(System.out,1<<16),false,"ISO-8859-1");
    Map<String,Method> ms=new HashMap<>();
    for(Method m:LinkHouse.class.getMethods()) ms.put(m.getName(),m);
    LinkHouse x=null; String l;
    while((l=in.readLine())!=null){
      if(l.equals("NEW")){x=new LinkHouse();out.println("NEW");continue;}
      if(l.startsWith("TAPE ")){
        byte[] b=l.substring(5).replace("\\n","\n").getBytes("ISO-8859-1");
        x.cut(x.told(6));
        int n=(b.length+19)/20;
        for(int i=0;i<n;i++){int[] w=new int[5];
          for(int k=0;k<20;k++){int v=i*20+k<b.length?b[i*20+k]&255:0; w[k/4]|=v<<(24-8*(k%4));}
          x.feed(w[0],w[1],w[2],w[3],w[4]);}
        x.cut(n*20-b.length);
        out.println("tape "+x.told(6)); continue;}
      if(l.equals("OUT")){StringBuilder s=new StringBuilder();for(int i=0;i<x.size();i++)s.append((char)x.octet(i));out.println("OUT "+s);continue;}
      String[] p=l.split(" ");
      Method m=ms.get(p[0]); Object[] as=new Object[p.length-1];
      for(int i=1;i<p.length;i++)as[i-1]=Integer.parseInt(p[i]);
      try { out.println(l+" = "+m.invoke(x,as)); } catch(InvocationTargetException e){ out.println(l+" THREW "+e.getCause()); e.getCause().printStackTrace(out); out.flush(); }
    }
    out.flush();
  }
}
